theorem zPoT {p : Nat} (hp : p < 12) : zTc (48 + 4 * p) := ⟨by show 48 + 4 * p < 202; omega, (zPoz p hp).2.1⟩
theorem zPoD {p : Nat} (hp : p < 12) : zCe (49 + 4 * p) := ⟨by show 49 + 4 * p < 202; omega, (zPoz p hp).2.2.1⟩
theorem zPoC {p : Nat} (hp : p < 12) : zCe (50 + 4 * p) := ⟨by show 50 + 4 * p < 202; omega, (zPoz p hp).2.2.2.1⟩
/-- turns of a pose: none beyond the joints -/
def zT6 (D : zD) (t : Nat → Int32) : Prop := ∀ j, j < 6 → (-2 ≤ t j ∧ t j ≤ 2) ∧ (dJ D ≤ j → t j = 0)
def zld (t : Nat → Int32) : Nat := zsm (fun j => zab (t j)) 6
theorem zsm_0 {g : Nat → Nat} {m : Nat} : ∀ {n : Nat}, (∀ i, m ≤ i → i < m + n → g i = 0) → zsm g (m + n) = zsm g m
  | 0, _ => rfl
  | n + 1, h => by
    show zsm g (m + n) + g (m + n) = zsm g m
    rw [zsm_0 (fun i h1 h2 => h i h1 (by omega)), h (m + n) (by omega) (by omega), Nat.add_zero]
theorem zld_o {D : zD} {t : Nat → Int32} (hD : zDok D) (h : ∀ j, dJ D ≤ j → j < 6 → t j = 0) : zldo D t (-1) (dJ D) = zld t := by
  have h6 := hD.1.2.2
  unfold zldo zld
  obtain ⟨n, hn⟩ : ∃ n, 6 = dJ D + n := ⟨6 - dJ D, by omega⟩
  rw [hn, zsm_0 (fun i h1 h2 => by rw [h i h1 (by omega)]; rfl)]
  exact zsm_c (fun i _ => if_pos zac_m1)
theorem s_X5_weigh {G : zG} {w : zW} {p : Nat} (hw : zWf w) (hp : p < 12) (hT : ∀ j, j < 6 → (if 0 ≤ w.1 (48 + 4 * p) j then w.1 (48 + 4 * p) j else 0 - w.1 (48 + 4 * p) j) = nI (zab (w.1 (48 + 4 * p) j))) : zEi G mX5_weigh [.ref (47 + 4 * p)] w (nI (zld (w.1 (48 + 4 * p)))) w := by
  refine zC_of (lo := [_, _, _]) kcX5_weigh (Nat.le_of_ble_eq_true rfl) rfl (fun X hX hE => ?_)
  have loop : ∀ z i, i + z = 6 → zk0 G X mX5_weigh 4 [.ref (47 + 4 * p), .int (nI (zsm (fun j => zab (w.1 (48 + 4 * p) j)) i)), .int (nI i)] [] w := by
    intro z
    induction z with
    | zero =>
      intro i hi
      obtain rfl : i = 6 := by omega
      refine zk_iload_n hX dX5_weigh_4 rfl ?_
      refine zk_bipush (v := 6) hX dX5_weigh_5 (by decide) ?_
      refine zk_icmp_ge (tgt := 28) hX dX5_weigh_7 (by decide) (fun c7 => ?_) (fun c7 => ?_)
      rotate_left
      · exact absurd (by decide) c7
      refine zk_iload_n hX dX5_weigh_28 rfl ?_
      refine zk_iret hX hE rfl ⟨rfl, rfl⟩ dX5_weigh_29 ⟨_, rfl, ?_⟩
      exact ⟨rfl, rfl⟩
    | succ z ih =>
      intro i hi
      refine zk_iload_n hX dX5_weigh_4 rfl ?_
      refine zk_bipush (v := 6) hX dX5_weigh_5 (by decide) ?_
      refine zk_icmp_ge (tgt := 28) hX dX5_weigh_7 (by decide) (fun c7 => ?_) (fun c7 => ?_)
      · exact absurd c7 (nI_ge (b := 6) (by omega) (by decide))
      refine zk_iload_n hX dX5_weigh_10 rfl ?_
      refine zk_aload_n hX dX5_weigh_11 rfl ?_
      refine zk_getR hX dX5_weigh_12 flX5_9 (zPok (by first | assumption | omega)) (zPoz _ (by first | assumption | omega)).1 ((hw _ _ (by omega)).trans (zPoz _ (by first | assumption | omega)).2.2.2.2.1) ?_
      refine zk_iload_n hX dX5_weigh_15 rfl ?_
      refine zk_ialdE hX dX5_weigh_16 rfl (show 48 + 4 * _ < 202 by omega) (zPoz _ (by first | assumption | omega)).2.1 (by first | assumption | omega) rfl ?_
      refine zk_mabs hX dX5_weigh_17 mlX5_66 ⟨rfl, rfl⟩ ?_
      rw [hT i (by omega)]
      refine zk_iadd hX dX5_weigh_20 ?_
      rw [nI_add]
      refine zk_istore_n (lo' := [_, _, _]) hX dX5_weigh_21 (Nat.le_of_ble_eq_true rfl) rfl rfl ?_
      refine zk_iinc (lo' := [_, _, _]) hX dX5_weigh_22 rfl (by first | exact zinc _ | exact rfl) (Nat.le_of_ble_eq_true rfl) rfl rfl ?_
      refine zk_goto (tgt := 4) hX dX5_weigh_25 (by decide) ?_
      exact ih (i + 1) (by omega)
  refine zk_iconst (v := 0) hX dX5_weigh_0 (by decide) ?_
  refine zk_istore_n (lo' := [_, _, _]) hX dX5_weigh_1 (Nat.le_of_ble_eq_true rfl) rfl rfl ?_
  refine zk_iconst (v := 0) hX dX5_weigh_2 (by decide) ?_
  refine zk_istore_n (lo' := [_, _, _]) hX dX5_weigh_3 (Nat.le_of_ble_eq_true rfl) rfl rfl ?_
  exact loop 6 0 (by omega)
def zheldk (k : Int32) : Prop := k = 1 ∨ k = 4 ∨ k = 5
theorem s_X5_isHeld {G : zG} {w : zW} {p : Nat} (hp : p < 12) : zEi G mX5_isHeld [.ref (47 + 4 * p)] w (zb (w.1 (47 + 4 * p) 3 = 1 ∨ w.1 (47 + 4 * p) 3 = 4 ∨ w.1 (47 + 4 * p) 3 = 5)) w := by
  refine zC_of (lo := [_]) kcX5_isHeld (Nat.le_of_ble_eq_true rfl) rfl (fun X hX hE => ?_)
  refine zk_aload_n hX dX5_isHeld_0 rfl ?_
  refine zk_getI hX dX5_isHeld_1 flX5_63 (zPok (by first | assumption | omega)) (zPoz _ (by first | assumption | omega)).1 ?_
  refine zk_iconst (v := 1) hX dX5_isHeld_4 (by decide) ?_
  refine zk_icmp_eq (tgt := 24) hX dX5_isHeld_5 (by decide) (fun c5 => ?_) (fun c5 => ?_)
  · refine zk_iconst (v := 1) hX dX5_isHeld_24 (by decide) ?_
    refine zk_goto (tgt := 29) hX dX5_isHeld_25 (by decide) ?_
    refine zk_zret hX hE rfl ⟨rfl, rfl⟩ dX5_isHeld_29 rfl ⟨_, rfl, ?_⟩
    exact ⟨by first | exact zb_t' (by grind) | exact zb_f' (by grind), rfl⟩
  · refine zk_aload_n hX dX5_isHeld_8 rfl ?_
    refine zk_getI hX dX5_isHeld_9 flX5_63 (zPok (by first | assumption | omega)) (zPoz _ (by first | assumption | omega)).1 ?_
    refine zk_iconst (v := 4) hX dX5_isHeld_12 (by decide) ?_
    refine zk_icmp_eq (tgt := 24) hX dX5_isHeld_13 (by decide) (fun c13 => ?_) (fun c13 => ?_)
    · refine zk_iconst (v := 1) hX dX5_isHeld_24 (by decide) ?_
      refine zk_goto (tgt := 29) hX dX5_isHeld_25 (by decide) ?_
      refine zk_zret hX hE rfl ⟨rfl, rfl⟩ dX5_isHeld_29 rfl ⟨_, rfl, ?_⟩
      exact ⟨by first | exact zb_t' (by grind) | exact zb_f' (by grind), rfl⟩
    · refine zk_aload_n hX dX5_isHeld_16 rfl ?_
      refine zk_getI hX dX5_isHeld_17 flX5_63 (zPok (by first | assumption | omega)) (zPoz _ (by first | assumption | omega)).1 ?_
      refine zk_iconst (v := 5) hX dX5_isHeld_20 (by decide) ?_
      refine zk_icmp_ne (tgt := 28) hX dX5_isHeld_21 (by decide) (fun c21 => ?_) (fun c21 => ?_)
      · refine zk_iconst (v := 0) hX dX5_isHeld_28 (by decide) ?_
        refine zk_zret hX hE rfl ⟨rfl, rfl⟩ dX5_isHeld_29 rfl ⟨_, rfl, ?_⟩
        exact ⟨by first | exact zb_t' (by grind) | exact zb_f' (by grind), rfl⟩
      · refine zk_iconst (v := 1) hX dX5_isHeld_24 (by decide) ?_
        refine zk_goto (tgt := 29) hX dX5_isHeld_25 (by decide) ?_
        refine zk_zret hX hE rfl ⟨rfl, rfl⟩ dX5_isHeld_29 rfl ⟨_, rfl, ?_⟩
        exact ⟨by first | exact zb_t' (by grind) | exact zb_f' (by grind), rfl⟩
theorem s_X5_begin {G : zG} {w : zW} {p a L : Nat} (hw : zWf w) (hp : p < 12) (hA : zRw a L) (ha : a < 25) (hS : zSz (w.1 a 0) L) (m : Int32) : zCv G mX5_begin [.ref (47 + 4 * p), .ref a, .int m] w (fun w' => zFr [47 + 4 * p, 48 + 4 * p] [50 + 4 * p] [] w w' ∧ (∀ j, j < 6 → w'.1 (48 + 4 * p) j = zRget w a (nI j)) ∧ w'.1 (47 + 4 * p) 4 = m ∧ zHas w' (50 + 4 * p) zno) := by
  refine zC_of (lo := [_, _, _, _]) kcX5_begin (Nat.le_of_ble_eq_true rfl) rfl (fun X hX hE => ?_)
  have loop : ∀ z i w1, i + z = 6 → zFr [47 + 4 * p, 48 + 4 * p] [50 + 4 * p] [] w w1 → (∀ j, j < i → w1.1 (48 + 4 * p) j = zRget w a (nI j)) → zk0 G X mX5_begin 2 [.ref (47 + 4 * p), .ref a, .int m, .int (nI i)] [] w1 := by
    intro z
    induction z with
    | zero =>
      intro i w1 hi hF h
      obtain rfl : i = 6 := by omega
      have hw1 := zFr_wf hF hw
      refine zk_iload_n hX dX5_begin_2 rfl ?_
      refine zk_bipush (v := 6) hX dX5_begin_3 (by decide) ?_
      refine zk_icmp_ge (tgt := 25) hX dX5_begin_5 (by decide) (fun c5 => ?_) (fun c5 => ?_)
      rotate_left
      · exact absurd (by decide) c5
      refine zk_aload_n hX dX5_begin_25 rfl ?_
      refine zk_iload_n hX dX5_begin_26 rfl ?_
      refine zk_putI hX dX5_begin_27 plX5_31 (fun h => by cases h) (zPok (by first | assumption | omega)) (zPoz _ (by first | assumption | omega)).1 rfl rfl ?_
      refine zk_aload_n hX dX5_begin_30 rfl ?_
      refine zk_getR hX dX5_begin_31 flX5_22 (zPok (by first | assumption | omega)) (zPoz _ (by first | assumption | omega)).1 (((zWf_i hw1) _ _ (by omega)).trans (zPoz _ (by first | assumption | omega)).2.2.2.2.2.2) ?_
      refine zk_V0v hX dX5_begin_34 kcX1_clear mlX5_35 viX1_clear rfl (show 50 + 4 * _ < 202 by omega) (zPoz _ (by first | assumption | omega)).2.2.2.1 (s_X1_clear (zPoC hp)) (Nat.le_of_ble_eq_true rfl) rfl ?_
      refine zk_vret hX hE rfl ⟨rfl, rfl⟩ dX5_begin_37 ⟨rfl, ?_⟩
      refine ⟨zFr_t (zFr_t hF (zFr_i (by simp) (by omega))) (zFr_S (by simp)), fun j hj => ?_, ?_, zsetS_has⟩
      · rw [zsetS_1, zsi_1, if_neg (by omega)]
        exact h j hj
      · rw [zsetS_1, zsi_1, if_pos ⟨rfl, rfl⟩]
    | succ z ih =>
      intro i w1 hi hF h
      have hw1 := zFr_wf hF hw
      have e1 : w1.1 a = w.1 a := hF.2.1 a (by simp; omega) (by omega)
      have hL := hA.2
      have e2 : w1.1 (a + 1) = w.1 (a + 1) := hF.2.1 (a + 1) (by simp; omega) (by omega)
      have e3 : zRget w1 a (nI i) = zRget w a (nI i) := by unfold zRget; rw [e1, e2]
      refine zk_iload_n hX dX5_begin_2 rfl ?_
      refine zk_bipush (v := 6) hX dX5_begin_3 (by decide) ?_
      refine zk_icmp_ge (tgt := 25) hX dX5_begin_5 (by decide) (fun c5 => ?_) (fun c5 => ?_)
      · exact absurd c5 (nI_ge (b := 6) (by omega) (by decide))
      refine zk_aload_n hX dX5_begin_8 rfl ?_
      refine zk_getR hX dX5_begin_9 flX5_9 (zPok (by first | assumption | omega)) (zPoz _ (by first | assumption | omega)).1 ((hw1 _ _ (by omega)).trans (zPoz _ (by first | assumption | omega)).2.2.2.2.1) ?_
      refine zk_iload_n hX dX5_begin_12 rfl ?_
      refine zk_aload_n hX dX5_begin_13 rfl ?_
      refine zk_iload_n hX dX5_begin_14 rfl ?_
      refine zk_V1i hX dX5_begin_15 kcX8_get mlX5_25 viX8_get rfl (zRw_k0 hA) hA.1.2.1 (s_X8_get hA hw1 (by rw [e1]; exact hS) _) (Nat.le_of_ble_eq_true rfl) rfl ?_
      rw [e3]
      refine zk_iastE hX dX5_begin_18 rfl (show 48 + 4 * _ < 202 by omega) (zPoz _ (by first | assumption | omega)).2.1 (by first | assumption | omega) rfl ?_
      refine zk_iinc (lo' := [_, _, _, _]) hX dX5_begin_19 rfl (by first | exact zinc _ | exact rfl) (Nat.le_of_ble_eq_true rfl) rfl rfl ?_
      refine zk_goto (tgt := 2) hX dX5_begin_22 (by decide) ?_
      refine ih (i + 1) _ (by omega) (zFr_t hF (zFr_i (by simp) (by omega))) (fun j hj => ?_)
      rw [zsi_1]
      by_cases q : j = i
      · rw [if_pos ⟨rfl, q⟩, q]
      · rw [if_neg (fun z => q z.2)]
        exact h j (by omega)
  refine zk_iconst (v := 0) hX dX5_begin_0 (by decide) ?_
  refine zk_istore_n (lo' := [_, _, _, _]) hX dX5_begin_1 (Nat.le_of_ble_eq_true rfl) rfl rfl ?_
  exact loop 6 0 w (by omega) zFr_r (fun j hj => absurd hj (by omega))
theorem s_X5_shadow {G : zG} {w : zW} {p l k z u v : Nat} {S C : zS} (hw : zWf w) (hp : p < 12) (hLp : zLp l) (hC : zCe k) (hk : k ≠ 50 + 4 * p) (hS : zHas w (49 + 4 * p) S) (hCd : zHas w (50 + 4 * p) C) (hL : zLm w l z u v) (ho : zlok z u v) :
    zEv G mX5_shadow [.ref (47 + 4 * p), .ref l, .ref k] w (zsetS w k (if w.1 (47 + 4 * p) 3 = 5 then zun (zthr z u v S) C else zthr z u v S)) := by
  refine zC_of (lo := [_, _, _]) kcX5_shadow (Nat.le_of_ble_eq_true rfl) rfl (fun X hX hE => ?_)
  refine zk_aload_n hX dX5_shadow_0 rfl ?_
  refine zk_aload_n hX dX5_shadow_1 rfl ?_
  refine zk_getR hX dX5_shadow_2 flX5_18 (zPok (by first | assumption | omega)) (zPoz _ (by first | assumption | omega)).1 ((hw _ _ (by omega)).trans (zPoz _ (by first | assumption | omega)).2.2.2.2.2.1) ?_
  refine zk_getL hX dX5_shadow_5 flX5_69 (show 49 + 4 * _ < 202 by omega) (zPoz _ (by first | assumption | omega)).2.2.1 ?_
  rw [hS.1]
  refine zk_aload_n hX dX5_shadow_8 rfl ?_
  refine zk_getR hX dX5_shadow_9 flX5_18 (zPok (by first | assumption | omega)) (zPoz _ (by first | assumption | omega)).1 ((hw _ _ (by omega)).trans (zPoz _ (by first | assumption | omega)).2.2.2.2.2.1) ?_
  refine zk_getL hX dX5_shadow_12 flX5_73 (show 49 + 4 * _ < 202 by omega) (zPoz _ (by first | assumption | omega)).2.2.1 ?_
  rw [hS.2]
  refine zk_aload_n hX dX5_shadow_15 rfl ?_
  refine zk_V3v hX dX5_shadow_16 kcX3_throwCells mlX5_76 viX3_throwCells rfl (zLp_k hLp) (zLp_z hLp) (s_X3_throwCells hLp hC hL ho) (Nat.le_of_ble_eq_true rfl) rfl ?_
  refine zk_aload_n hX dX5_shadow_19 rfl ?_
  refine zk_getI hX dX5_shadow_20 flX5_63 (zPok (by first | assumption | omega)) (zPoz _ (by first | assumption | omega)).1 ?_
  refine zk_iconst (v := 5) hX dX5_shadow_23 (by decide) ?_
  rw [zsetS_1]
  refine zk_icmp_ne (tgt := 45) hX dX5_shadow_24 (by decide) (fun c24 => ?_) (fun c24 => ?_)
  · refine zk_vret hX hE rfl ⟨rfl, rfl⟩ dX5_shadow_45 ⟨rfl, ?_⟩
    first
    | (rw [zsetS_ss, if_pos (by first | exact c24 | exact Decidable.not_not.mp c24)])
    | (rw [if_neg c24])
  · refine zk_aload_n hX dX5_shadow_27 rfl ?_
    refine zk_aload_n hX dX5_shadow_28 rfl ?_
    refine zk_getR hX dX5_shadow_29 flX5_22 (zPok (by first | assumption | omega)) (zPoz _ (by first | assumption | omega)).1 (((zWf_of hw rfl (w' := zsetS w k (zthr z u v S))) _ _ (by omega)).trans (zPoz _ (by first | assumption | omega)).2.2.2.2.2.2) ?_
    refine zk_getL hX dX5_shadow_32 flX5_69 (show 50 + 4 * _ < 202 by omega) (zPoz _ (by first | assumption | omega)).2.2.2.1 ?_
    rw [zsetS_2 (by omega), hCd.1]
    refine zk_aload_n hX dX5_shadow_35 rfl ?_
    refine zk_getR hX dX5_shadow_36 flX5_22 (zPok (by first | assumption | omega)) (zPoz _ (by first | assumption | omega)).1 (((zWf_of hw rfl (w' := zsetS w k (zthr z u v S))) _ _ (by omega)).trans (zPoz _ (by first | assumption | omega)).2.2.2.2.2.2) ?_
    refine zk_getL hX dX5_shadow_39 flX5_73 (show 50 + 4 * _ < 202 by omega) (zPoz _ (by first | assumption | omega)).2.2.2.1 ?_
    rw [zsetS_2 (by omega), hCd.2]
    refine zk_V2v hX dX5_shadow_42 kcX1_join mlX5_82 viX1_join rfl hC.1 hC.2 (s_X1_join hC zsetS_has) (Nat.le_of_ble_eq_true rfl) rfl ?_
    refine zk_vret hX hE rfl ⟨rfl, rfl⟩ dX5_shadow_45 ⟨rfl, ?_⟩
    first
    | (rw [zsetS_ss, if_pos (by first | exact c24 | exact Decidable.not_not.mp c24)])
    | (rw [if_neg c24])
/-! the model's -/
theorem s_X12_kind {G : zG} {w : zW} {p : Nat} (hw : zWf w) (hp : p < 12) : zEi G mX12_kind [.ref 166, .int (nI p)] w (w.1 183 (3 * p)) w := by
  refine zC_of (lo := [_, _]) kcX12_kind (Nat.le_of_ble_eq_true rfl) rfl (fun X hX hE => ?_)
  refine zk_aload_n hX dX12_kind_0 rfl ?_
  refine zk_getR hX dX12_kind_1 flX12_59 k_166 z_166 (hw _ _ (by decide) |>.trans r_166_34) ?_
  refine zk_iconst (v := 3) hX dX12_kind_4 (by decide) ?_
  refine zk_iload_n hX dX12_kind_5 rfl ?_
  refine zk_imul hX dX12_kind_6 ?_
  refine zk_ialdE hX dX12_kind_7 (nI_mulE (nI_k 3 rfl) rfl) k_183 z_183 (by first | assumption | omega) rfl ?_
  refine zk_iret hX hE rfl ⟨rfl, rfl⟩ dX12_kind_8 ⟨_, rfl, ?_⟩
  exact ⟨rfl, rfl⟩
theorem s_X12_isHeldPose {G : zG} {w : zW} {p : Nat} (hw : zWf w) (hp : p < 12) : zEi G mX12_isHeldPose [.ref 166, .int (nI p)] w (zb (w.1 183 (3 * p) = 1 ∨ w.1 183 (3 * p) = 4 ∨ w.1 183 (3 * p) = 5)) w := by
  refine zC_of (lo := [_, _]) kcX12_isHeldPose (Nat.le_of_ble_eq_true rfl) rfl (fun X hX hE => ?_)
  refine zk_aload_n hX dX12_isHeldPose_0 rfl ?_
  refine zk_iload_n hX dX12_isHeldPose_1 rfl ?_
  refine zk_V1i hX dX12_isHeldPose_2 kcX12_kind mlX12_281 viX12_kind rfl k_166 z_166 (s_X12_kind hw hp) (Nat.le_of_ble_eq_true rfl) rfl ?_
  refine zk_iconst (v := 1) hX dX12_isHeldPose_5 (by decide) ?_
  refine zk_icmp_eq (tgt := 27) hX dX12_isHeldPose_6 (by decide) (fun c6 => ?_) (fun c6 => ?_)
  · refine zk_iconst (v := 1) hX dX12_isHeldPose_27 (by decide) ?_
    refine zk_goto (tgt := 32) hX dX12_isHeldPose_28 (by decide) ?_
    refine zk_zret hX hE rfl ⟨rfl, rfl⟩ dX12_isHeldPose_32 rfl ⟨_, rfl, ?_⟩
    exact ⟨by first | exact zb_t' (by grind) | exact zb_f' (by grind), rfl⟩
  · refine zk_aload_n hX dX12_isHeldPose_9 rfl ?_
    refine zk_iload_n hX dX12_isHeldPose_10 rfl ?_
    refine zk_V1i hX dX12_isHeldPose_11 kcX12_kind mlX12_281 viX12_kind rfl k_166 z_166 (s_X12_kind hw hp) (Nat.le_of_ble_eq_true rfl) rfl ?_
    refine zk_iconst (v := 4) hX dX12_isHeldPose_14 (by decide) ?_
    refine zk_icmp_eq (tgt := 27) hX dX12_isHeldPose_15 (by decide) (fun c15 => ?_) (fun c15 => ?_)
    · refine zk_iconst (v := 1) hX dX12_isHeldPose_27 (by decide) ?_
      refine zk_goto (tgt := 32) hX dX12_isHeldPose_28 (by decide) ?_
      refine zk_zret hX hE rfl ⟨rfl, rfl⟩ dX12_isHeldPose_32 rfl ⟨_, rfl, ?_⟩
      exact ⟨by first | exact zb_t' (by grind) | exact zb_f' (by grind), rfl⟩
    · refine zk_aload_n hX dX12_isHeldPose_18 rfl ?_
      refine zk_iload_n hX dX12_isHeldPose_19 rfl ?_
      refine zk_V1i hX dX12_isHeldPose_20 kcX12_kind mlX12_281 viX12_kind rfl k_166 z_166 (s_X12_kind hw hp) (Nat.le_of_ble_eq_true rfl) rfl ?_
      refine zk_iconst (v := 5) hX dX12_isHeldPose_23 (by decide) ?_
      refine zk_icmp_ne (tgt := 31) hX dX12_isHeldPose_24 (by decide) (fun c24 => ?_) (fun c24 => ?_)
      · refine zk_iconst (v := 0) hX dX12_isHeldPose_31 (by decide) ?_
        refine zk_zret hX hE rfl ⟨rfl, rfl⟩ dX12_isHeldPose_32 rfl ⟨_, rfl, ?_⟩
        exact ⟨by first | exact zb_t' (by grind) | exact zb_f' (by grind), rfl⟩
      · refine zk_iconst (v := 1) hX dX12_isHeldPose_27 (by decide) ?_
        refine zk_goto (tgt := 32) hX dX12_isHeldPose_28 (by decide) ?_
        refine zk_zret hX hE rfl ⟨rfl, rfl⟩ dX12_isHeldPose_32 rfl ⟨_, rfl, ?_⟩
        exact ⟨by first | exact zb_t' (by grind) | exact zb_f' (by grind), rfl⟩
theorem s_X12_greater {G : zG} {w : zW} (a b : Int32) : zEi G mX12_greater [.int a, .int b] w (if a ≤ b then b else a) w := by
  refine zC_of (lo := [_, _]) kcX12_greater (Nat.le_of_ble_eq_true rfl) rfl (fun X hX hE => ?_)
  refine zk_iload_n hX dX12_greater_0 rfl ?_
  refine zk_iload_n hX dX12_greater_1 rfl ?_
  refine zk_icmp_le (tgt := 9) hX dX12_greater_2 (by decide) (fun c2 => ?_) (fun c2 => ?_)
  · refine zk_iload_n hX dX12_greater_9 rfl ?_
    refine zk_iret hX hE rfl ⟨rfl, rfl⟩ dX12_greater_10 ⟨_, rfl, ?_⟩
    first | (rw [if_pos c2]; exact ⟨rfl, rfl⟩) | (rw [if_neg c2]; exact ⟨rfl, rfl⟩)
  · refine zk_iload_n hX dX12_greater_5 rfl ?_
    refine zk_goto (tgt := 10) hX dX12_greater_6 (by decide) ?_
    refine zk_iret hX hE rfl ⟨rfl, rfl⟩ dX12_greater_10 ⟨_, rfl, ?_⟩
    first | (rw [if_pos c2]; exact ⟨rfl, rfl⟩) | (rw [if_neg c2]; exact ⟨rfl, rfl⟩)
theorem s_X12_layPose {G : zG} {w : zW} {D : zD} {p : Nat} {t : Nat → Int32} (hw : zWf w) (hM : mHd w D) (hD : zDok D) (hp : p < 12) (hT : zT2 D t) (ht : ∀ j, j < dJ D → w.1 184 (6 * p + j) = t j) :
    zCv G mX12_layPose [.ref 166, .int (nI p)] w (fun w' => zFr [179, 180, 181] [] [29] w w' ∧ (∀ j, j < dJ D → w'.1 179 j = t j) ∧ zPts w' (zP D t (-1))) := by
  have h6 := hD.1.2.2
  refine zC_of (lo := [_, _, _]) kcX12_layPose (Nat.le_of_ble_eq_true rfl) rfl (fun X hX hE => ?_)
  have loop : ∀ z i w1, i + z = dJ D → zFr [179, 180, 181] [] [29] w w1 → (∀ j, j < i → w1.1 179 j = t j) → zk0 G X mX12_layPose 2 [.ref 166, .int (nI p), .int (nI i)] [] w1 := by
    intro z
    induction z with
    | zero =>
      intro i w1 hi hF h
      obtain rfl : i = dJ D := by omega
      have hw1 := zFr_wf hF hw
      have hM1 := mHd_f hM hF (by decide)
      refine zk_iload_n hX dX12_layPose_2 rfl ?_
      refine zk_aload_n hX dX12_layPose_3 rfl ?_
      refine zk_getI hX dX12_layPose_4 flX12_199 k_166 z_166 ?_
      rw [hM1.1.2.2]
      refine zk_icmp_ge (tgt := 33) hX dX12_layPose_7 (by decide) (fun c7 => ?_) (fun c7 => ?_)
      rotate_left
      · exact absurd (nI_le (Nat.le_refl _) (by omega)) c7
      refine zk_aload_n hX dX12_layPose_33 rfl ?_
      refine zk_iconst (v := -1) hX dX12_layPose_34 (by decide) ?_
      refine zk_V1vp hX dX12_layPose_35 kcX12_layPoints mlX12_260 viX12_layPoints rfl k_166 z_166 (s_X12_layPoints hw1 hM1 hD (zT2_c hT h) (Or.inl rfl)) (Nat.le_of_ble_eq_true rfl) rfl (fun w2 q2 => ?_)
      refine zk_vret hX hE rfl ⟨rfl, rfl⟩ dX12_layPose_38 ⟨rfl, ?_⟩
      refine ⟨zFr_t hF (zFr_s q2.1 (by decide)), fun j hj => ?_, ?_⟩
      · rw [q2.1.2.1 179 (by decide) (by decide)]
        exact h j hj
      · have h9 := q2.2
        rw [zP_c hD h] at h9
        exact h9
    | succ z ih =>
      intro i w1 hi hF h
      have hw1 := zFr_wf hF hw
      have hM1 := mHd_f hM hF (by decide)
      have e9 : w1.1 184 = w.1 184 := hF.2.1 184 (by decide) (by decide)
      refine zk_iload_n hX dX12_layPose_2 rfl ?_
      refine zk_aload_n hX dX12_layPose_3 rfl ?_
      refine zk_getI hX dX12_layPose_4 flX12_199 k_166 z_166 ?_
      rw [hM1.1.2.2]
      refine zk_icmp_ge (tgt := 33) hX dX12_layPose_7 (by decide) (fun c7 => ?_) (fun c7 => ?_)
      · exact absurd c7 (nI_ge (by omega) (by omega))
      refine zk_aload_n hX dX12_layPose_10 rfl ?_
      refine zk_getR hX dX12_layPose_11 flX12_47 k_166 z_166 (hw1 _ _ (by decide) |>.trans r_166_28) ?_
      refine zk_iload_n hX dX12_layPose_14 rfl ?_
      refine zk_aload_n hX dX12_layPose_15 rfl ?_
      refine zk_getR hX dX12_layPose_16 flX12_62 k_166 z_166 (hw1 _ _ (by decide) |>.trans r_166_35) ?_
      refine zk_bipush (v := 6) hX dX12_layPose_19 (by decide) ?_
      refine zk_iload_n hX dX12_layPose_21 rfl ?_
      refine zk_imul hX dX12_layPose_22 ?_
      refine zk_iload_n hX dX12_layPose_23 rfl ?_
      refine zk_iadd hX dX12_layPose_24 ?_
      refine zk_ialdE hX dX12_layPose_25 (nI_addE (nI_mulE (nI_k 6 rfl) rfl) rfl) k_184 z_184 (by first | assumption | omega) rfl ?_
      rw [e9, ht i (by omega)]
      refine zk_iastE hX dX12_layPose_26 rfl k_179 z_179 (by first | assumption | omega) rfl ?_
      refine zk_iinc (lo' := [_, _, _]) hX dX12_layPose_27 rfl (by first | exact zinc _ | exact rfl) (Nat.le_of_ble_eq_true rfl) rfl rfl ?_
      refine zk_goto (tgt := 2) hX dX12_layPose_30 (by decide) ?_
      refine ih (i + 1) _ (by omega) (zFr_t hF (zFr_i (by decide) (by decide))) (fun j hj => ?_)
      rw [zsi_1]
      by_cases q : j = i
      · rw [if_pos ⟨rfl, q⟩, q]
      · rw [if_neg (fun z => q z.2)]
        exact h j (by omega)
  refine zk_iconst (v := 0) hX dX12_layPose_0 (by decide) ?_
  refine zk_istore_n (lo' := [_, _, _]) hX dX12_layPose_1 (Nat.le_of_ble_eq_true rfl) rfl rfl ?_
  exact loop (dJ D) 0 w (by omega) zFr_r (fun j hj => absurd hj (by omega))
def zshd (z u v : Nat) (L : List zPt) (kd : Int32) (C : zS) : zS := if kd = 5 then zun (zthr z u v (zdkL zno L)) C else zthr z u v (zdkL zno L)
theorem s_X12_throwPose {G : zG} {w : zW} {D : zD} {p z u v : Nat} {t : Nat → Int32} {C : zS} (hw : zWf w) (hM : mHd w D) (hD : zDok D) (hp : p < 12) (hT : zT2 D t) (ht : ∀ j, j < dJ D → w.1 184 (6 * p + j) = t j) (hl : mLm w z u v) (ho : zlok z u v) (hC : ∀ y, y < 10 → w.1 185 (10 * p + y) = nI (zline C y)) :
    zCv G mX12_throwPose [.ref 166, .int (nI p)] w (fun w' => zFr [179, 180, 181, 182] [] [29] w w' ∧ zMd w' (zshd z u v (zP D t (-1)) (w.1 183 (3 * p)) C)) := by
  refine zC_of (lo := [_, _, _]) kcX12_throwPose (Nat.le_of_ble_eq_true rfl) rfl (fun X hX hE => ?_)
  have loop : w.1 183 (3 * p) = 5 → ∀ m i w1, i + m = 10 → zFr [179, 180, 181, 182] [] [29] w w1 → (∀ y, y < 10 → w1.1 182 y = nI (if y < i then zline (zun (zthr z u v (zdkL zno (zP D t (-1)))) C) y else zline (zthr z u v (zdkL zno (zP D t (-1)))) y)) → zk0 G X mX12_throwPose 11 [.ref 166, .int (nI p), .int (nI i)] [] w1 := by
    intro h5 m
    induction m with
    | zero =>
      intro i w1 hi hF h
      obtain rfl : i = 10 := by omega
      refine zk_iload_n hX dX12_throwPose_11 rfl ?_
      refine zk_bipush (v := 10) hX dX12_throwPose_12 (by decide) ?_
      refine zk_icmp_ge (tgt := 52) hX dX12_throwPose_14 (by decide) (fun c14 => ?_) (fun c14 => ?_)
      rotate_left
      · exact absurd (by decide) c14
      refine zk_vret hX hE rfl ⟨rfl, rfl⟩ dX12_throwPose_52 ⟨rfl, ?_⟩
      refine ⟨hF, fun y hy => ?_⟩
      rw [h y hy, if_pos hy]
      unfold zshd
      rw [if_pos h5]
    | succ m ih =>
      intro i w1 hi hF h
      have hw1 := zFr_wf hF hw
      have e3 : w1.1 183 (3 * p) = 5 := by rw [hF.2.1 183 (by decide) (by decide), h5]
      have e5 : w1.1 185 = w.1 185 := hF.2.1 185 (by decide) (by decide)
      refine zk_iload_n hX dX12_throwPose_11 rfl ?_
      refine zk_bipush (v := 10) hX dX12_throwPose_12 (by decide) ?_
      refine zk_icmp_ge (tgt := 52) hX dX12_throwPose_14 (by decide) (fun c14 => ?_) (fun c14 => ?_)
      · exact absurd c14 (nI_ge (b := 10) (by omega) (by decide))
      refine zk_aload_n hX dX12_throwPose_17 rfl ?_
      refine zk_iload_n hX dX12_throwPose_18 rfl ?_
      refine zk_V1i hX dX12_throwPose_19 kcX12_kind mlX12_281 viX12_kind rfl k_166 z_166 (s_X12_kind hw1 hp) (Nat.le_of_ble_eq_true rfl) rfl ?_
      rw [e3]
      refine zk_iconst (v := 5) hX dX12_throwPose_22 (by decide) ?_
      refine zk_icmp_ne (tgt := 52) hX dX12_throwPose_23 (by decide) (fun c23 => ?_) (fun c23 => ?_)
      · exact absurd c23 (fun q => q rfl)
      refine zk_aload_n hX dX12_throwPose_26 rfl ?_
      refine zk_getR hX dX12_throwPose_27 flX12_56 k_166 z_166 (hw1 _ _ (by decide) |>.trans r_166_32) ?_
      refine zk_iload_n hX dX12_throwPose_30 rfl ?_
      refine zk_dup2 hX dX12_throwPose_31 rfl rfl ?_
      refine zk_ialdE hX dX12_throwPose_32 rfl k_182 z_182 (by first | assumption | omega) rfl ?_
      rw [h i (by omega), if_neg (Nat.lt_irrefl _)]
      refine zk_aload_n hX dX12_throwPose_33 rfl ?_
      refine zk_getR hX dX12_throwPose_34 flX12_65 k_166 z_166 (hw1 _ _ (by decide) |>.trans r_166_36) ?_
      refine zk_bipush (v := 10) hX dX12_throwPose_37 (by decide) ?_
      refine zk_iload_n hX dX12_throwPose_39 rfl ?_
      refine zk_imul hX dX12_throwPose_40 ?_
      refine zk_iload_n hX dX12_throwPose_41 rfl ?_
      refine zk_iadd hX dX12_throwPose_42 ?_
      refine zk_ialdE hX dX12_throwPose_43 (nI_addE (nI_mulE (nI_k 10 rfl) rfl) rfl) k_185 z_185 (by first | assumption | omega) rfl ?_
      rw [e5, hC i (by omega)]
      refine zk_ior hX dX12_throwPose_44 ?_
      rw [nI_or, zline_un]
      refine zk_iastE hX dX12_throwPose_45 rfl k_182 z_182 (by first | assumption | omega) rfl ?_
      refine zk_iinc (lo' := [_, _, _]) hX dX12_throwPose_46 rfl (by first | exact zinc _ | exact rfl) (Nat.le_of_ble_eq_true rfl) rfl rfl ?_
      refine zk_goto (tgt := 11) hX dX12_throwPose_49 (by decide) ?_
      refine ih (i + 1) _ (by omega) (zFr_t hF (zFr_i (by decide) (by decide))) (fun y hy => ?_)
      rw [zsi_1]
      by_cases q : y = i
      · rw [if_pos ⟨rfl, q⟩, if_pos (by omega), q]
      · rw [if_neg (fun z => q z.2), h y hy]
        by_cases q2 : y < i
        · rw [if_pos q2, if_pos (by omega)]
        · rw [if_neg q2, if_neg (by omega)]
  have other : ¬ w.1 183 (3 * p) = 5 → ∀ w2, zFr [179, 180, 181, 182] [] [29] w w2 → zMd w2 (zthr z u v (zdkL zno (zP D t (-1)))) → zk0 G X mX12_throwPose 11 [.ref 166, .int (nI p), .int 0] [] w2 := by
    intro h5 w2 hF2 h2
    have hw2 := zFr_wf hF2 hw
    have e3 : w2.1 183 (3 * p) = w.1 183 (3 * p) := by rw [hF2.2.1 183 (by decide) (by decide)]
    refine zk_iload_n hX dX12_throwPose_11 rfl ?_
    refine zk_bipush (v := 10) hX dX12_throwPose_12 (by decide) ?_
    refine zk_icmp_ge (tgt := 52) hX dX12_throwPose_14 (by decide) (fun c14 => ?_) (fun c14 => ?_)
    · exact absurd c14 (by decide)
    refine zk_aload_n hX dX12_throwPose_17 rfl ?_
    refine zk_iload_n hX dX12_throwPose_18 rfl ?_
    refine zk_V1i hX dX12_throwPose_19 kcX12_kind mlX12_281 viX12_kind rfl k_166 z_166 (s_X12_kind hw2 hp) (Nat.le_of_ble_eq_true rfl) rfl ?_
    rw [e3]
    refine zk_iconst (v := 5) hX dX12_throwPose_22 (by decide) ?_
    refine zk_icmp_ne (tgt := 52) hX dX12_throwPose_23 (by decide) (fun c23 => ?_) (fun c23 => ?_)
    rotate_left
    · exact absurd c23 h5
    refine zk_vret hX hE rfl ⟨rfl, rfl⟩ dX12_throwPose_52 ⟨rfl, ?_⟩
    refine ⟨hF2, ?_⟩
    unfold zshd
    rw [if_neg h5]
    exact h2
  refine zk_aload_n hX dX12_throwPose_0 rfl ?_
  refine zk_iload_n hX dX12_throwPose_1 rfl ?_
  refine zk_V1vp hX dX12_throwPose_2 kcX12_layPose mlX12_284 viX12_layPose rfl k_166 z_166 (s_X12_layPose hw hM hD hp hT ht) (Nat.le_of_ble_eq_true rfl) rfl (fun w1 q1 => ?_)
  have hw1 := zFr_wf q1.1 hw
  refine zk_aload_n hX dX12_throwPose_5 rfl ?_
  refine zk_V0vp hX dX12_throwPose_6 kcX12_layThrown mlX12_311 viX12_layThrown rfl k_166 z_166 (s_X12_layThrown hw1 q1.2.2 (zP_len hD _ _) (mLm_o hl ⟨q1.1.2.2.2 25 (by decide), q1.1.2.2.2 26 (by decide), q1.1.2.2.2 27 (by decide)⟩) ho) (Nat.le_of_ble_eq_true rfl) rfl (fun w2 q2 => ?_)
  have hw2 := zFr_wf q2.1 hw1
  have hF2 : zFr [179, 180, 181, 182] [] [29] w w2 := zFr_t (zFr_s q1.1 (by decide)) (zFr_s q2.1 (by decide))
  refine zk_iconst (v := 0) hX dX12_throwPose_9 (by decide) ?_
  refine zk_istore_n (lo' := [_, _, _]) hX dX12_throwPose_10 (Nat.le_of_ble_eq_true rfl) rfl rfl ?_
  by_cases h5 : w.1 183 (3 * p) = 5
  · exact loop h5 10 0 w2 (by omega) hF2 (fun y hy => by rw [if_neg (by omega)]; exact q2.2 y hy)
  · exact other h5 w2 hF2 q2.2
