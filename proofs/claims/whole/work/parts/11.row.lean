theorem zint_lt {a b : Int32} : a < b ↔ a.toInt < b.toInt := Int32.lt_iff_toInt_lt
theorem zint_le {a b : Int32} : a ≤ b ↔ a.toInt ≤ b.toInt := Int32.le_iff_toInt_le
set_option maxRecDepth 100000 in
theorem s_X9_tell {G : zG} {w : zW} (v : Int32) : zEi G mX9_tell [.ref 1, .int v] w 1 (zsi w 1 0 v) := by
  refine zC.of kcX9_tell (Nat.le_of_ble_eq_true rfl) (fun X hX hE => ?_)
  refine zk_aload_n hX dX9_tell_0 rfl ?_
  refine zk_iload_n hX dX9_tell_1 rfl ?_
  refine zk_putI hX dX9_tell_2 plX9_19 (fun h => by cases h) k_1 z_1 rfl rfl ?_
  refine zk_iconst (v := 1) hX dX9_tell_5 (by decide) ?_
  refine zk_iret hX hE rfl ⟨rfl, rfl⟩ dX9_tell_6 ⟨_, rfl, ?_⟩
  exact ⟨rfl, rfl⟩
set_option maxRecDepth 100000 in
theorem s_X9_find {G : zG} {w : zW} (hw : zWf w) (k : Nat) (hk : 1 ≤ k ∧ k ≤ 5) : zEi G mX9_find [.ref 1, .int (nI k)] w (-3) (zsi (zsi w 1 3 (nI k)) 2 k (w.1 2 k + 1)) := by
  refine zC.of kcX9_find (Nat.le_of_ble_eq_true rfl) (fun X hX hE => ?_)
  refine zk_iload_n hX dX9_find_0 rfl ?_
  refine zk_iconst (v := 1) hX dX9_find_1 (by decide) ?_
  refine zk_icmp_lt (tgt := 25) hX dX9_find_2 (by decide) (fun c2 => ?_) (fun c2 => ?_)
  · exact absurd c2 (nI_nlt (b := 1) hk.1 (by omega))
  refine zk_iload_n hX dX9_find_5 rfl ?_
  refine zk_iconst (v := 5) hX dX9_find_6 (by decide) ?_
  refine zk_icmp_gt (tgt := 25) hX dX9_find_7 (by decide) (fun c7 => ?_) (fun c7 => ?_)
  · exact absurd c7 (nI_nlt (a := 5) hk.2 (by omega))
  refine zk_aload_n hX dX9_find_10 rfl ?_
  refine zk_iload_n hX dX9_find_11 rfl ?_
  refine zk_putI hX dX9_find_12 plX9_23 (fun h => by cases h) k_1 z_1 rfl rfl ?_
  refine zk_aload_n hX dX9_find_15 rfl ?_
  refine zk_getR hX dX9_find_16 flX9_15 k_1 z_1 (hw _ _ (by decide) |>.trans r_1_4) ?_
  refine zk_iload_n hX dX9_find_19 rfl ?_
  refine zk_dup2 hX dX9_find_20 rfl rfl ?_
  refine zk_ialdE hX dX9_find_21 rfl k_2 z_2 (by first | assumption | omega) rfl ?_
  refine zk_iconst (v := 1) hX dX9_find_22 (by decide) ?_
  refine zk_iadd hX dX9_find_23 ?_
  refine zk_iastE hX dX9_find_24 rfl k_2 z_2 (by first | assumption | omega) rfl ?_
  refine zk_bipush (v := -3) hX dX9_find_25 (by decide) ?_
  refine zk_iret hX hE rfl ⟨rfl, rfl⟩ dX9_find_27 ⟨_, rfl, ?_⟩
  exact ⟨rfl, rfl⟩
set_option maxRecDepth 100000 in
theorem s_X8_isThere {G : zG} {w : zW} {a L : Nat} (hA : zRw a L) : zEi G mX8_isThere [.ref a] w (zb (0 ≤ w.1 a 0)) w := by
  refine zC.of kcX8_isThere (Nat.le_of_ble_eq_true rfl) (fun X hX hE => ?_)
  refine zk_aload_n hX dX8_isThere_0 rfl ?_
  refine zk_getI hX dX8_isThere_1 flX8_11 (Nat.lt_trans hA.1.1 (Nat.le_of_ble_eq_true rfl)) hA.1.2.1 ?_
  refine zk_if_lt (tgt := 11) hX dX8_isThere_4 (by decide) (fun c4 => ?_) (fun c4 => ?_)
  · refine zk_iconst (v := 0) hX dX8_isThere_11 (by decide) ?_
    refine zk_zret hX hE rfl ⟨rfl, rfl⟩ dX8_isThere_12 rfl ⟨_, rfl, ?_⟩
    exact ⟨by first | exact zb_t' (by grind) | exact zb_f' (by grind), rfl⟩
  · refine zk_iconst (v := 1) hX dX8_isThere_7 (by decide) ?_
    refine zk_goto (tgt := 12) hX dX8_isThere_8 (by decide) ?_
    refine zk_zret hX hE rfl ⟨rfl, rfl⟩ dX8_isThere_12 rfl ⟨_, rfl, ?_⟩
    exact ⟨by first | exact zb_t' (by grind) | exact zb_f' (by grind), rfl⟩
set_option maxRecDepth 100000 in
theorem s_X8_lose {G : zG} {w : zW} {a L : Nat} (hA : zRw a L) : zEv G mX8_lose [.ref a] w (zsi w a 0 (-1)) := by
  refine zC.of kcX8_lose (Nat.le_of_ble_eq_true rfl) (fun X hX hE => ?_)
  refine zk_aload_n hX dX8_lose_0 rfl ?_
  refine zk_iconst (v := -1) hX dX8_lose_1 (by decide) ?_
  refine zk_putI hX dX8_lose_2 plX8_11 (fun h => by cases h) (Nat.lt_trans hA.1.1 (Nat.le_of_ble_eq_true rfl)) hA.1.2.1 rfl rfl ?_
  refine zk_vret hX hE rfl ⟨rfl, rfl⟩ dX8_lose_5 ⟨rfl, ?_⟩
  rfl
set_option maxRecDepth 100000 in
theorem s_X8_holds {G : zG} {w : zW} {a L : Nat} (hA : zRw a L) (i : Int32) : zEi G mX8_holds [.ref a, .int i] w (zb (0 ≤ i ∧ i < w.1 a 0)) w := by
  refine zC.of kcX8_holds (Nat.le_of_ble_eq_true rfl) (fun X hX hE => ?_)
  refine zk_iload_n hX dX8_holds_0 rfl ?_
  refine zk_if_lt (tgt := 16) hX dX8_holds_1 (by decide) (fun c1 => ?_) (fun c1 => ?_)
  · refine zk_iconst (v := 0) hX dX8_holds_16 (by decide) ?_
    refine zk_zret hX hE rfl ⟨rfl, rfl⟩ dX8_holds_17 rfl ⟨_, rfl, ?_⟩
    exact ⟨by first | exact zb_t' (by grind) | exact zb_f' (by grind), rfl⟩
  · refine zk_iload_n hX dX8_holds_4 rfl ?_
    refine zk_aload_n hX dX8_holds_5 rfl ?_
    refine zk_getI hX dX8_holds_6 flX8_11 (Nat.lt_trans hA.1.1 (Nat.le_of_ble_eq_true rfl)) hA.1.2.1 ?_
    refine zk_icmp_ge (tgt := 16) hX dX8_holds_9 (by decide) (fun c9 => ?_) (fun c9 => ?_)
    · refine zk_iconst (v := 0) hX dX8_holds_16 (by decide) ?_
      refine zk_zret hX hE rfl ⟨rfl, rfl⟩ dX8_holds_17 rfl ⟨_, rfl, ?_⟩
      exact ⟨by first | exact zb_t' (by grind) | exact zb_f' (by grind), rfl⟩
    · refine zk_iconst (v := 1) hX dX8_holds_12 (by decide) ?_
      refine zk_goto (tgt := 17) hX dX8_holds_13 (by decide) ?_
      refine zk_zret hX hE rfl ⟨rfl, rfl⟩ dX8_holds_17 rfl ⟨_, rfl, ?_⟩
      exact ⟨by first | exact zb_t' (by grind) | exact zb_f' (by grind), rfl⟩
