/-! counts -/
def cHeld (w : zW) : Nat → Bool := fun p => decide (w.1 (47 + 4 * p) 3 = 1 ∨ w.1 (47 + 4 * p) 3 = 4 ∨ w.1 (47 + 4 * p) 3 = 5)
theorem zcnt_s {P : Nat → Bool} {i : Nat} : zcnt P (i + 1) = zcnt P i + (if P i = true then 1 else 0) := by
  by_cases h : P i = true
  · rw [zcnt_t h, if_pos h]
  · rw [zcnt_f h, if_neg h]
    omega
theorem s_X11_heldPoses {G : zG} {w : zW} {n : Nat} (hw : zWf w) (hn : n ≤ 12) (hP : w.1 0 10 = nI n) : zEi G mX11_heldPoses [.ref 0] w (nI (zcnt (cHeld w) n)) w := by
  refine zC_of (lo := [_, _, _]) kcX11_heldPoses (Nat.le_of_ble_eq_true rfl) rfl (fun X hX hE => ?_)
  have loop : ∀ z i, i + z = n → zk0 G X mX11_heldPoses 4 [.ref 0, .int (nI (zcnt (cHeld w) i)), .int (nI i)] [] w := by
    intro z
    induction z with
    | zero =>
      intro i hi
      obtain rfl : i = n := by omega
      refine zk_iload_n hX dX11_heldPoses_4 rfl ?_
      refine zk_aload_n hX dX11_heldPoses_5 rfl ?_
      refine zk_getI hX dX11_heldPoses_6 flX11_213 k_0 z_0 ?_
      rw [hP]
      refine zk_icmp_ge (tgt := 33) hX dX11_heldPoses_9 (by decide) (fun c9 => ?_) (fun c9 => ?_)
      rotate_left
      · exact absurd (nI_le (Nat.le_refl _) (by omega)) c9
      refine zk_iload_n hX dX11_heldPoses_33 rfl ?_
      refine zk_iret hX hE rfl ⟨rfl, rfl⟩ dX11_heldPoses_34 ⟨_, rfl, ?_⟩
      exact ⟨rfl, rfl⟩
    | succ z ih =>
      intro i hi
      have h0 := ih (i + 1) (by omega)
      rw [zcnt_s] at h0
      refine zk_iload_n hX dX11_heldPoses_4 rfl ?_
      refine zk_aload_n hX dX11_heldPoses_5 rfl ?_
      refine zk_getI hX dX11_heldPoses_6 flX11_213 k_0 z_0 ?_
      rw [hP]
      refine zk_icmp_ge (tgt := 33) hX dX11_heldPoses_9 (by decide) (fun c9 => ?_) (fun c9 => ?_)
      · exact absurd c9 (nI_ge (by omega) (by omega))
      refine zk_aload_n hX dX11_heldPoses_12 rfl ?_
      refine zk_getR hX dX11_heldPoses_13 flX11_61 k_0 z_0 (hw _ _ (by decide) |>.trans r_0_9) ?_
      refine zk_iload_n hX dX11_heldPoses_16 rfl ?_
      refine zk_poses hX hw dX11_heldPoses_17 rfl (by first | assumption | omega) ?_
      refine zk_V0i hX dX11_heldPoses_18 kcX5_isHeld mlX11_230 viX5_isHeld rfl (zPok (by first | assumption | omega)) (zPoz _ (by first | assumption | omega)).1 (s_X5_isHeld (by omega)) (Nat.le_of_ble_eq_true rfl) rfl ?_
      refine zk_if_eqB (tgt := 27) hX dX11_heldPoses_21 (by decide) (fun c21 => ?_) (fun c21 => ?_)
      · refine zk_iinc (lo' := [_, _, _]) hX dX11_heldPoses_27 rfl (by first | exact zinc _ | exact rfl) (Nat.le_of_ble_eq_true rfl) rfl rfl ?_
        refine zk_goto (tgt := 4) hX dX11_heldPoses_30 (by decide) ?_
        first
        | (rw [if_pos (show cHeld w i = true from decide_eq_true (by first | exact c21 | exact Decidable.not_not.mp c21))] at h0; exact h0)
        | (rw [if_neg (show ¬ cHeld w i = true from fun q => c21 (of_decide_eq_true q))] at h0; exact h0)
      · refine zk_iinc (lo' := [_, _, _]) hX dX11_heldPoses_24 rfl (by first | exact zinc _ | exact rfl) (Nat.le_of_ble_eq_true rfl) rfl rfl ?_
        refine zk_iinc (lo' := [_, _, _]) hX dX11_heldPoses_27 rfl (by first | exact zinc _ | exact rfl) (Nat.le_of_ble_eq_true rfl) rfl rfl ?_
        refine zk_goto (tgt := 4) hX dX11_heldPoses_30 (by decide) ?_
        first
        | (rw [if_pos (show cHeld w i = true from decide_eq_true (by first | exact c21 | exact Decidable.not_not.mp c21))] at h0; exact h0)
        | (rw [if_neg (show ¬ cHeld w i = true from fun q => c21 (of_decide_eq_true q))] at h0; exact h0)
  refine zk_iconst (v := 0) hX dX11_heldPoses_0 (by decide) ?_
  refine zk_istore_n (lo' := [_, _, _]) hX dX11_heldPoses_1 (Nat.le_of_ble_eq_true rfl) rfl rfl ?_
  refine zk_iconst (v := 0) hX dX11_heldPoses_2 (by decide) ?_
  refine zk_istore_n (lo' := [_, _, _]) hX dX11_heldPoses_3 (Nat.le_of_ble_eq_true rfl) rfl rfl ?_
  exact loop n 0 (by omega)
def cThere (w : zW) : Nat → Bool := fun k => decide (¬ w.1 (96 + 3 * k) 3 = 0)
theorem s_X11_beastsThere {G : zG} {w : zW} (hw : zWf w) : zEi G mX11_beastsThere [.ref 0] w (nI (zcnt (cThere w) 6)) w := by
  refine zC_of (lo := [_, _, _]) kcX11_beastsThere (Nat.le_of_ble_eq_true rfl) rfl (fun X hX hE => ?_)
  have loop : ∀ z i, i + z = 6 → zk0 G X mX11_beastsThere 4 [.ref 0, .int (nI (zcnt (cThere w) i)), .int (nI i)] [] w := by
    intro z
    induction z with
    | zero =>
      intro i hi
      obtain rfl : i = 6 := by omega
      refine zk_iload_n hX dX11_beastsThere_4 rfl ?_
      refine zk_bipush (v := 6) hX dX11_beastsThere_5 (by decide) ?_
      refine zk_icmp_ge (tgt := 31) hX dX11_beastsThere_7 (by decide) (fun c7 => ?_) (fun c7 => ?_)
      rotate_left
      · exact absurd (by decide) c7
      refine zk_iload_n hX dX11_beastsThere_31 rfl ?_
      refine zk_iret hX hE rfl ⟨rfl, rfl⟩ dX11_beastsThere_32 ⟨_, rfl, ?_⟩
      exact ⟨rfl, rfl⟩
    | succ z ih =>
      intro i hi
      have h0 := ih (i + 1) (by omega)
      rw [zcnt_s] at h0
      refine zk_iload_n hX dX11_beastsThere_4 rfl ?_
      refine zk_bipush (v := 6) hX dX11_beastsThere_5 (by decide) ?_
      refine zk_icmp_ge (tgt := 31) hX dX11_beastsThere_7 (by decide) (fun c7 => ?_) (fun c7 => ?_)
      · exact absurd c7 (nI_ge (b := 6) (by omega) (by decide))
      refine zk_aload_n hX dX11_beastsThere_10 rfl ?_
      refine zk_getR hX dX11_beastsThere_11 flX11_68 k_0 z_0 (hw _ _ (by decide) |>.trans r_0_11) ?_
      refine zk_iload_n hX dX11_beastsThere_14 rfl ?_
      refine zk_beasts hX hw dX11_beastsThere_15 rfl (by first | assumption | omega) ?_
      refine zk_getI hX dX11_beastsThere_16 flX11_284 (zBek (by first | assumption | omega)) (zBez _ (by first | assumption | omega)).1 ?_
      refine zk_if_eq (tgt := 25) hX dX11_beastsThere_19 (by decide) (fun c19 => ?_) (fun c19 => ?_)
      · refine zk_iinc (lo' := [_, _, _]) hX dX11_beastsThere_25 rfl (by first | exact zinc _ | exact rfl) (Nat.le_of_ble_eq_true rfl) rfl rfl ?_
        refine zk_goto (tgt := 4) hX dX11_beastsThere_28 (by decide) ?_
        first
        | (rw [if_pos (show cThere w i = true from decide_eq_true (by first | exact c19 | exact Decidable.not_not.mp c19))] at h0; exact h0)
        | (rw [if_neg (show ¬ cThere w i = true from fun q => (of_decide_eq_true q) c19)] at h0; exact h0)
      · refine zk_iinc (lo' := [_, _, _]) hX dX11_beastsThere_22 rfl (by first | exact zinc _ | exact rfl) (Nat.le_of_ble_eq_true rfl) rfl rfl ?_
        refine zk_iinc (lo' := [_, _, _]) hX dX11_beastsThere_25 rfl (by first | exact zinc _ | exact rfl) (Nat.le_of_ble_eq_true rfl) rfl rfl ?_
        refine zk_goto (tgt := 4) hX dX11_beastsThere_28 (by decide) ?_
        first
        | (rw [if_pos (show cThere w i = true from decide_eq_true (by first | exact c19 | exact Decidable.not_not.mp c19))] at h0; exact h0)
        | (rw [if_neg (show ¬ cThere w i = true from fun q => (of_decide_eq_true q) c19)] at h0; exact h0)
  refine zk_iconst (v := 0) hX dX11_beastsThere_0 (by decide) ?_
  refine zk_istore_n (lo' := [_, _, _]) hX dX11_beastsThere_1 (Nat.le_of_ble_eq_true rfl) rfl rfl ?_
  refine zk_iconst (v := 0) hX dX11_beastsThere_2 (by decide) ?_
  refine zk_istore_n (lo' := [_, _, _]) hX dX11_beastsThere_3 (Nat.le_of_ble_eq_true rfl) rfl rfl ?_
  exact loop 6 0 (by omega)
