theorem zPoT {p : Nat} (hp : p < 12) : zTc (48 + 4 * p) := ⟨by show 48 + 4 * p < 166; omega, (zPoz p hp).2.1⟩
theorem zPoD {p : Nat} (hp : p < 12) : zCe (49 + 4 * p) := ⟨by show 49 + 4 * p < 166; omega, (zPoz p hp).2.2.1⟩
theorem zPoC {p : Nat} (hp : p < 12) : zCe (50 + 4 * p) := ⟨by show 50 + 4 * p < 166; omega, (zPoz p hp).2.2.2.1⟩
/-- turns of a pose: none beyond the joints -/
def zT6 (D : zD) (t : Nat → Int32) : Prop := ∀ j, j < 6 → (-2 ≤ t j ∧ t j ≤ 2) ∧ (dJ D ≤ j → t j = 0)
def zld (t : Nat → Int32) : Nat := zsm (fun j => zab (t j)) 6
theorem s_X5_weigh {G : zG} {w : zW} {p : Nat} (hw : zWf w) (hp : p < 12) (hT : ∀ j, j < 6 → (if 0 ≤ w.1 (48 + 4 * p) j then w.1 (48 + 4 * p) j else 0 - w.1 (48 + 4 * p) j) = nI (zab (w.1 (48 + 4 * p) j))) : zEi G mX5_weigh [.ref (47 + 4 * p)] w (nI (zld (w.1 (48 + 4 * p)))) w := by
  refine zC_of (lo := [_, _, _]) kcX5_weigh (Nat.le_of_ble_eq_true rfl) rfl (fun X hX hE => ?_)
  have loop : ∀ z i, i + z = 6 → zk0 G X mX5_weigh 4 [.ref (47 + 4 * p), .int (nI (zsm (fun j => zab (w.1 (48 + 4 * p) j)) i)), .int (nI i)] [] w := by
    intro z
    induction z with
    | zero =>
      intro i hi
      obtain rfl : i = 6 := by omega
      refine zk_iload_n hX dX5_weigh_4 rfl ?_
      refine zk_bipush (v := 6) hX dX5_weigh_5 (by decide) ?_
      refine zk_icmp_ge (tgt := 28) hX dX5_weigh_7 (by decide) (fun c7 => ?_) (fun c7 => ?_)
      rotate_left
      · exact absurd (by decide) c7
      refine zk_iload_n hX dX5_weigh_28 rfl ?_
      refine zk_iret hX hE rfl ⟨rfl, rfl⟩ dX5_weigh_29 ⟨_, rfl, ?_⟩
      exact ⟨rfl, rfl⟩
    | succ z ih =>
      intro i hi
      refine zk_iload_n hX dX5_weigh_4 rfl ?_
      refine zk_bipush (v := 6) hX dX5_weigh_5 (by decide) ?_
      refine zk_icmp_ge (tgt := 28) hX dX5_weigh_7 (by decide) (fun c7 => ?_) (fun c7 => ?_)
      · exact absurd c7 (nI_ge (b := 6) (by omega) (by decide))
      refine zk_iload_n hX dX5_weigh_10 rfl ?_
      refine zk_aload_n hX dX5_weigh_11 rfl ?_
      refine zk_getR hX dX5_weigh_12 flX5_9 (zPok (by first | assumption | omega)) (zPoz _ (by first | assumption | omega)).1 ((hw _ _ (by omega)).trans (zPoz _ (by first | assumption | omega)).2.2.2.2.1) ?_
      refine zk_iload_n hX dX5_weigh_15 rfl ?_
      refine zk_ialdE hX dX5_weigh_16 rfl (show 48 + 4 * _ < 166 by omega) (zPoz _ (by first | assumption | omega)).2.1 (by first | assumption | omega) rfl ?_
      refine zk_mabs hX dX5_weigh_17 mlX5_66 ⟨rfl, rfl⟩ ?_
      rw [hT i (by omega)]
      refine zk_iadd hX dX5_weigh_20 ?_
      rw [nI_add]
      refine zk_istore_n (lo' := [_, _, _]) hX dX5_weigh_21 (Nat.le_of_ble_eq_true rfl) rfl rfl ?_
      refine zk_iinc (lo' := [_, _, _]) hX dX5_weigh_22 rfl (by first | exact zinc _ | exact rfl) (Nat.le_of_ble_eq_true rfl) rfl rfl ?_
      refine zk_goto (tgt := 4) hX dX5_weigh_25 (by decide) ?_
      exact ih (i + 1) (by omega)
  refine zk_iconst (v := 0) hX dX5_weigh_0 (by decide) ?_
  refine zk_istore_n (lo' := [_, _, _]) hX dX5_weigh_1 (Nat.le_of_ble_eq_true rfl) rfl rfl ?_
  refine zk_iconst (v := 0) hX dX5_weigh_2 (by decide) ?_
  refine zk_istore_n (lo' := [_, _, _]) hX dX5_weigh_3 (Nat.le_of_ble_eq_true rfl) rfl rfl ?_
  exact loop 6 0 (by omega)
def zheldk (k : Int32) : Prop := k = 1 ∨ k = 4 ∨ k = 5
theorem s_X5_isHeld {G : zG} {w : zW} {p : Nat} (hp : p < 12) : zEi G mX5_isHeld [.ref (47 + 4 * p)] w (zb (w.1 (47 + 4 * p) 3 = 1 ∨ w.1 (47 + 4 * p) 3 = 4 ∨ w.1 (47 + 4 * p) 3 = 5)) w := by
  refine zC_of (lo := [_]) kcX5_isHeld (Nat.le_of_ble_eq_true rfl) rfl (fun X hX hE => ?_)
  refine zk_aload_n hX dX5_isHeld_0 rfl ?_
  refine zk_getI hX dX5_isHeld_1 flX5_63 (zPok (by first | assumption | omega)) (zPoz _ (by first | assumption | omega)).1 ?_
  refine zk_iconst (v := 1) hX dX5_isHeld_4 (by decide) ?_
  refine zk_icmp_eq (tgt := 24) hX dX5_isHeld_5 (by decide) (fun c5 => ?_) (fun c5 => ?_)
  · refine zk_iconst (v := 1) hX dX5_isHeld_24 (by decide) ?_
    refine zk_goto (tgt := 29) hX dX5_isHeld_25 (by decide) ?_
    refine zk_zret hX hE rfl ⟨rfl, rfl⟩ dX5_isHeld_29 rfl ⟨_, rfl, ?_⟩
    exact ⟨by first | exact zb_t' (by grind) | exact zb_f' (by grind), rfl⟩
  · refine zk_aload_n hX dX5_isHeld_8 rfl ?_
    refine zk_getI hX dX5_isHeld_9 flX5_63 (zPok (by first | assumption | omega)) (zPoz _ (by first | assumption | omega)).1 ?_
    refine zk_iconst (v := 4) hX dX5_isHeld_12 (by decide) ?_
    refine zk_icmp_eq (tgt := 24) hX dX5_isHeld_13 (by decide) (fun c13 => ?_) (fun c13 => ?_)
    · refine zk_iconst (v := 1) hX dX5_isHeld_24 (by decide) ?_
      refine zk_goto (tgt := 29) hX dX5_isHeld_25 (by decide) ?_
      refine zk_zret hX hE rfl ⟨rfl, rfl⟩ dX5_isHeld_29 rfl ⟨_, rfl, ?_⟩
      exact ⟨by first | exact zb_t' (by grind) | exact zb_f' (by grind), rfl⟩
    · refine zk_aload_n hX dX5_isHeld_16 rfl ?_
      refine zk_getI hX dX5_isHeld_17 flX5_63 (zPok (by first | assumption | omega)) (zPoz _ (by first | assumption | omega)).1 ?_
      refine zk_iconst (v := 5) hX dX5_isHeld_20 (by decide) ?_
      refine zk_icmp_ne (tgt := 28) hX dX5_isHeld_21 (by decide) (fun c21 => ?_) (fun c21 => ?_)
      · refine zk_iconst (v := 0) hX dX5_isHeld_28 (by decide) ?_
        refine zk_zret hX hE rfl ⟨rfl, rfl⟩ dX5_isHeld_29 rfl ⟨_, rfl, ?_⟩
        exact ⟨by first | exact zb_t' (by grind) | exact zb_f' (by grind), rfl⟩
      · refine zk_iconst (v := 1) hX dX5_isHeld_24 (by decide) ?_
        refine zk_goto (tgt := 29) hX dX5_isHeld_25 (by decide) ?_
        refine zk_zret hX hE rfl ⟨rfl, rfl⟩ dX5_isHeld_29 rfl ⟨_, rfl, ?_⟩
        exact ⟨by first | exact zb_t' (by grind) | exact zb_f' (by grind), rfl⟩
theorem s_X5_begin {G : zG} {w : zW} {p a L : Nat} (hw : zWf w) (hp : p < 12) (hA : zRw a L) (ha : a < 25) (hS : zSz (w.1 a 0) L) (m : Int32) : zCv G mX5_begin [.ref (47 + 4 * p), .ref a, .int m] w (fun w' => zFr [47 + 4 * p, 48 + 4 * p] [50 + 4 * p] [] w w' ∧ (∀ j, j < 6 → w'.1 (48 + 4 * p) j = zRget w a (nI j)) ∧ w'.1 (47 + 4 * p) 4 = m ∧ zHas w' (50 + 4 * p) zno) := by
  refine zC_of (lo := [_, _, _, _]) kcX5_begin (Nat.le_of_ble_eq_true rfl) rfl (fun X hX hE => ?_)
  have loop : ∀ z i w1, i + z = 6 → zFr [47 + 4 * p, 48 + 4 * p] [50 + 4 * p] [] w w1 → (∀ j, j < i → w1.1 (48 + 4 * p) j = zRget w a (nI j)) → zk0 G X mX5_begin 2 [.ref (47 + 4 * p), .ref a, .int m, .int (nI i)] [] w1 := by
    intro z
    induction z with
    | zero =>
      intro i w1 hi hF h
      obtain rfl : i = 6 := by omega
      have hw1 := zFr_wf hF hw
      refine zk_iload_n hX dX5_begin_2 rfl ?_
      refine zk_bipush (v := 6) hX dX5_begin_3 (by decide) ?_
      refine zk_icmp_ge (tgt := 25) hX dX5_begin_5 (by decide) (fun c5 => ?_) (fun c5 => ?_)
      rotate_left
      · exact absurd (by decide) c5
      refine zk_aload_n hX dX5_begin_25 rfl ?_
      refine zk_iload_n hX dX5_begin_26 rfl ?_
      refine zk_putI hX dX5_begin_27 plX5_31 (fun h => by cases h) (zPok (by first | assumption | omega)) (zPoz _ (by first | assumption | omega)).1 rfl rfl ?_
      refine zk_aload_n hX dX5_begin_30 rfl ?_
      refine zk_getR hX dX5_begin_31 flX5_22 (zPok (by first | assumption | omega)) (zPoz _ (by first | assumption | omega)).1 (((zWf_i hw1) _ _ (by omega)).trans (zPoz _ (by first | assumption | omega)).2.2.2.2.2.2) ?_
      refine zk_V0v hX dX5_begin_34 kcX1_clear mlX5_35 viX1_clear rfl (show 50 + 4 * _ < 166 by omega) (zPoz _ (by first | assumption | omega)).2.2.2.1 (s_X1_clear (zPoC hp)) (Nat.le_of_ble_eq_true rfl) rfl ?_
      refine zk_vret hX hE rfl ⟨rfl, rfl⟩ dX5_begin_37 ⟨rfl, ?_⟩
      refine ⟨zFr_t (zFr_t hF (zFr_i (by simp) (by omega))) (zFr_S (by simp)), fun j hj => ?_, ?_, zsetS_has⟩
      · rw [zsetS_1, zsi_1, if_neg (by omega)]
        exact h j hj
      · rw [zsetS_1, zsi_1, if_pos ⟨rfl, rfl⟩]
    | succ z ih =>
      intro i w1 hi hF h
      have hw1 := zFr_wf hF hw
      have e1 : w1.1 a = w.1 a := hF.2.1 a (by simp; omega) (by omega)
      have hL := hA.2
      have e2 : w1.1 (a + 1) = w.1 (a + 1) := hF.2.1 (a + 1) (by simp; omega) (by omega)
      have e3 : zRget w1 a (nI i) = zRget w a (nI i) := by unfold zRget; rw [e1, e2]
      refine zk_iload_n hX dX5_begin_2 rfl ?_
      refine zk_bipush (v := 6) hX dX5_begin_3 (by decide) ?_
      refine zk_icmp_ge (tgt := 25) hX dX5_begin_5 (by decide) (fun c5 => ?_) (fun c5 => ?_)
      · exact absurd c5 (nI_ge (b := 6) (by omega) (by decide))
      refine zk_aload_n hX dX5_begin_8 rfl ?_
      refine zk_getR hX dX5_begin_9 flX5_9 (zPok (by first | assumption | omega)) (zPoz _ (by first | assumption | omega)).1 ((hw1 _ _ (by omega)).trans (zPoz _ (by first | assumption | omega)).2.2.2.2.1) ?_
      refine zk_iload_n hX dX5_begin_12 rfl ?_
      refine zk_aload_n hX dX5_begin_13 rfl ?_
      refine zk_iload_n hX dX5_begin_14 rfl ?_
      refine zk_V1i hX dX5_begin_15 kcX8_get mlX5_25 viX8_get rfl (zRw_k0 hA) hA.1.2.1 (s_X8_get hA hw1 (by rw [e1]; exact hS) _) (Nat.le_of_ble_eq_true rfl) rfl ?_
      rw [e3]
      refine zk_iastE hX dX5_begin_18 rfl (show 48 + 4 * _ < 166 by omega) (zPoz _ (by first | assumption | omega)).2.1 (by first | assumption | omega) rfl ?_
      refine zk_iinc (lo' := [_, _, _, _]) hX dX5_begin_19 rfl (by first | exact zinc _ | exact rfl) (Nat.le_of_ble_eq_true rfl) rfl rfl ?_
      refine zk_goto (tgt := 2) hX dX5_begin_22 (by decide) ?_
      refine ih (i + 1) _ (by omega) (zFr_t hF (zFr_i (by simp) (by omega))) (fun j hj => ?_)
      rw [zsi_1]
      by_cases q : j = i
      · rw [if_pos ⟨rfl, q⟩, q]
      · rw [if_neg (fun z => q z.2)]
        exact h j (by omega)
  refine zk_iconst (v := 0) hX dX5_begin_0 (by decide) ?_
  refine zk_istore_n (lo' := [_, _, _, _]) hX dX5_begin_1 (Nat.le_of_ble_eq_true rfl) rfl rfl ?_
  exact loop 6 0 w (by omega) zFr_r (fun j hj => absurd hj (by omega))
theorem s_X5_shadow {G : zG} {w : zW} {p l k z u v : Nat} {S C : zS} (hw : zWf w) (hp : p < 12) (hLp : zLp l) (hC : zCe k) (hk : k ≠ 50 + 4 * p) (hS : zHas w (49 + 4 * p) S) (hCd : zHas w (50 + 4 * p) C) (hL : zLm w l z u v) (ho : zlok z u v) :
    zEv G mX5_shadow [.ref (47 + 4 * p), .ref l, .ref k] w (zsetS w k (if w.1 (47 + 4 * p) 3 = 5 then zun (zthr z u v S) C else zthr z u v S)) := by
  refine zC_of (lo := [_, _, _]) kcX5_shadow (Nat.le_of_ble_eq_true rfl) rfl (fun X hX hE => ?_)
  refine zk_aload_n hX dX5_shadow_0 rfl ?_
  refine zk_aload_n hX dX5_shadow_1 rfl ?_
  refine zk_getR hX dX5_shadow_2 flX5_18 (zPok (by first | assumption | omega)) (zPoz _ (by first | assumption | omega)).1 ((hw _ _ (by omega)).trans (zPoz _ (by first | assumption | omega)).2.2.2.2.2.1) ?_
  refine zk_getL hX dX5_shadow_5 flX5_69 (show 49 + 4 * _ < 166 by omega) (zPoz _ (by first | assumption | omega)).2.2.1 ?_
  rw [hS.1]
  refine zk_aload_n hX dX5_shadow_8 rfl ?_
  refine zk_getR hX dX5_shadow_9 flX5_18 (zPok (by first | assumption | omega)) (zPoz _ (by first | assumption | omega)).1 ((hw _ _ (by omega)).trans (zPoz _ (by first | assumption | omega)).2.2.2.2.2.1) ?_
  refine zk_getL hX dX5_shadow_12 flX5_73 (show 49 + 4 * _ < 166 by omega) (zPoz _ (by first | assumption | omega)).2.2.1 ?_
  rw [hS.2]
  refine zk_aload_n hX dX5_shadow_15 rfl ?_
  refine zk_V3v hX dX5_shadow_16 kcX3_throwCells mlX5_76 viX3_throwCells rfl (zLp_k hLp) (zLp_z hLp) (s_X3_throwCells hLp hC hL ho) (Nat.le_of_ble_eq_true rfl) rfl ?_
  refine zk_aload_n hX dX5_shadow_19 rfl ?_
  refine zk_getI hX dX5_shadow_20 flX5_63 (zPok (by first | assumption | omega)) (zPoz _ (by first | assumption | omega)).1 ?_
  refine zk_iconst (v := 5) hX dX5_shadow_23 (by decide) ?_
  rw [zsetS_1]
  refine zk_icmp_ne (tgt := 45) hX dX5_shadow_24 (by decide) (fun c24 => ?_) (fun c24 => ?_)
  · refine zk_vret hX hE rfl ⟨rfl, rfl⟩ dX5_shadow_45 ⟨rfl, ?_⟩
    first
    | (rw [zsetS_ss, if_pos (by first | exact c24 | exact Decidable.not_not.mp c24)])
    | (rw [if_neg c24])
  · refine zk_aload_n hX dX5_shadow_27 rfl ?_
    refine zk_aload_n hX dX5_shadow_28 rfl ?_
    refine zk_getR hX dX5_shadow_29 flX5_22 (zPok (by first | assumption | omega)) (zPoz _ (by first | assumption | omega)).1 (((zWf_of hw rfl (w' := zsetS w k (zthr z u v S))) _ _ (by omega)).trans (zPoz _ (by first | assumption | omega)).2.2.2.2.2.2) ?_
    refine zk_getL hX dX5_shadow_32 flX5_69 (show 50 + 4 * _ < 166 by omega) (zPoz _ (by first | assumption | omega)).2.2.2.1 ?_
    rw [zsetS_2 (by omega), hCd.1]
    refine zk_aload_n hX dX5_shadow_35 rfl ?_
    refine zk_getR hX dX5_shadow_36 flX5_22 (zPok (by first | assumption | omega)) (zPoz _ (by first | assumption | omega)).1 (((zWf_of hw rfl (w' := zsetS w k (zthr z u v S))) _ _ (by omega)).trans (zPoz _ (by first | assumption | omega)).2.2.2.2.2.2) ?_
    refine zk_getL hX dX5_shadow_39 flX5_73 (show 50 + 4 * _ < 166 by omega) (zPoz _ (by first | assumption | omega)).2.2.2.1 ?_
    rw [zsetS_2 (by omega), hCd.2]
    refine zk_V2v hX dX5_shadow_42 kcX1_join mlX5_82 viX1_join rfl hC.1 hC.2 (s_X1_join hC zsetS_has) (Nat.le_of_ble_eq_true rfl) rfl ?_
    refine zk_vret hX hE rfl ⟨rfl, rfl⟩ dX5_shadow_45 ⟨rfl, ?_⟩
    first
    | (rw [zsetS_ss, if_pos (by first | exact c24 | exact Decidable.not_not.mp c24)])
    | (rw [if_neg c24])
