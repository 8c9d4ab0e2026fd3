theorem s_X11_fault_bad {G : zG} {w : zW} (t : Int32) (h : ¬ (0 ≤ t ∧ t < 4)) : zEi G mX11_fault [.ref 0, .int t] w (-1) w := by
  refine zC_of (lo := [_, _]) kcX11_fault (Nat.le_of_ble_eq_true rfl) rfl (fun X hX hE => ?_)
  refine zk_iload_n hX dX11_fault_0 rfl ?_
  refine zk_S1i hX dX11_fault_1 kcX11_isText mlX11_153 smX11_isText rfl (s_X11_isText _) (Nat.le_of_ble_eq_true rfl) rfl ?_
  refine zk_if_neB (tgt := 9) hX dX11_fault_4 (by decide) (fun c4 => ?_) (fun c4 => ?_)
  · exact absurd c4 h
  refine zk_iconst (v := -1) hX dX11_fault_7 (by decide) ?_
  refine zk_iret hX hE rfl ⟨rfl, rfl⟩ dX11_fault_8 ⟨_, rfl, ?_⟩
  exact ⟨rfl, rfl⟩
theorem s_X11_fault_m {G : zG} {w : zW} {t : Nat} (hw : zWf w) (ht : t < 4) (hS : w.1 (17 + 2 * t) 0 < 0) : zEi G mX11_fault [.ref 0, .int (nI t)] w (-3) (zfind w 1) := by
  refine zC_of (lo := [_, _]) kcX11_fault (Nat.le_of_ble_eq_true rfl) rfl (fun X hX hE => ?_)
  refine zk_iload_n hX dX11_fault_0 rfl ?_
  refine zk_S1i hX dX11_fault_1 kcX11_isText mlX11_153 smX11_isText rfl (s_X11_isText _) (Nat.le_of_ble_eq_true rfl) rfl ?_
  refine zk_if_neB (tgt := 9) hX dX11_fault_4 (by decide) (fun c4 => ?_) (fun c4 => ?_)
  rotate_left
  · exact absurd (zrlt ht) c4
  refine zk_aload_n hX dX11_fault_9 rfl ?_
  refine zk_getR hX dX11_fault_10 flX11_25 k_0 z_0 (hw _ _ (by decide) |>.trans r_0_2) ?_
  refine zk_iload_n hX dX11_fault_13 rfl ?_
  refine zk_texts hX hw dX11_fault_14 rfl (by first | assumption | omega) ?_
  refine zk_V0i hX dX11_fault_15 kcX8_isThere mlX11_119 viX8_isThere rfl (zRwT0 (by first | assumption | omega)) (zRw_t _ (by first | assumption | omega)).2.1 (s_X8_isThere (zRwT ht)) (Nat.le_of_ble_eq_true rfl) rfl ?_
  refine zk_if_neB (tgt := 30) hX dX11_fault_18 (by decide) (fun c18 => ?_) (fun c18 => ?_)
  · exact absurd c18 (by grind)
  refine zk_aload_n hX dX11_fault_21 rfl ?_
  refine zk_getR hX dX11_fault_22 flX11_12 k_0 z_0 (hw _ _ (by decide) |>.trans r_0_0) ?_
  refine zk_iconst (v := 1) hX dX11_fault_25 (by decide) ?_
  refine zk_V1i hX dX11_fault_26 kcX9_find mlX11_111 viX9_find rfl k_1 z_1 (s_X9_find hw _ (by decide)) (Nat.le_of_ble_eq_true rfl) rfl ?_
  refine zk_iret hX hE rfl ⟨rfl, rfl⟩ dX11_fault_29 ⟨_, rfl, ?_⟩
  exact ⟨rfl, rfl⟩
theorem s_X11_fault {G : zG} {w : zW} {t m : Nat} (hw : zWf w) (ht : t < 4) (hm : m ≤ 80) (hS : w.1 (17 + 2 * t) 0 = nI m) :
    zCi G mX11_fault [.ref 0, .int (nI t)] w (fun r w' => zWf w' ∧ (∀ c, c ∉ [25, 35, 36, 37, 38, 39, 40, 41, 42, 43] → w'.1 c = w.1 c) ∧ w'.2.1 = w.2.1 ∧ r = (rAll (w.1 (17 + 2 * t + 1)) m 81 0 dNil).1) := by
  refine zC_of (lo := [_, _]) kcX11_fault (Nat.le_of_ble_eq_true rfl) rfl (fun X hX hE => ?_)
  refine zk_iload_n hX dX11_fault_0 rfl ?_
  refine zk_S1i hX dX11_fault_1 kcX11_isText mlX11_153 smX11_isText rfl (s_X11_isText _) (Nat.le_of_ble_eq_true rfl) rfl ?_
  refine zk_if_neB (tgt := 9) hX dX11_fault_4 (by decide) (fun c4 => ?_) (fun c4 => ?_)
  rotate_left
  · exact absurd (zrlt ht) c4
  refine zk_aload_n hX dX11_fault_9 rfl ?_
  refine zk_getR hX dX11_fault_10 flX11_25 k_0 z_0 (hw _ _ (by decide) |>.trans r_0_2) ?_
  refine zk_iload_n hX dX11_fault_13 rfl ?_
  refine zk_texts hX hw dX11_fault_14 rfl (by first | assumption | omega) ?_
  refine zk_V0i hX dX11_fault_15 kcX8_isThere mlX11_119 viX8_isThere rfl (zRwT0 (by first | assumption | omega)) (zRw_t _ (by first | assumption | omega)).2.1 (s_X8_isThere (zRwT ht)) (Nat.le_of_ble_eq_true rfl) rfl ?_
  refine zk_if_neB (tgt := 30) hX dX11_fault_18 (by decide) (fun c18 => ?_) (fun c18 => ?_)
  rotate_left
  · exact absurd (by rw [hS]; exact nI_pos' (by omega)) c18
  refine zk_aload_n hX dX11_fault_30 rfl ?_
  refine zk_getR hX dX11_fault_31 flX11_31 k_0 z_0 (hw _ _ (by decide) |>.trans r_0_3) ?_
  refine zk_aload_n hX dX11_fault_34 rfl ?_
  refine zk_getR hX dX11_fault_35 flX11_25 k_0 z_0 (hw _ _ (by decide) |>.trans r_0_2) ?_
  refine zk_iload_n hX dX11_fault_38 rfl ?_
  refine zk_texts hX hw dX11_fault_39 rfl (by first | assumption | omega) ?_
  refine zk_aload_n hX dX11_fault_40 rfl ?_
  refine zk_getR hX dX11_fault_41 flX11_42 k_0 z_0 (hw _ _ (by decide) |>.trans r_0_5) ?_
  refine zk_V2ip hX dX11_fault_44 kcX7_read mlX11_156 viX7_read rfl k_25 z_25 (s_X7_read hw (zRwT ht) (by omega) (Or.inr rfl) hm hS) (Nat.le_of_ble_eq_true rfl) rfl (fun r w2 q2 => ?_)
  refine zk_iret hX hE rfl ⟨rfl, rfl⟩ dX11_fault_47 ⟨_, rfl, ?_⟩
  exact ⟨q2.1, q2.2.1, q2.2.2.1, q2.2.2.2.1⟩

