theorem zRwR {r : Nat} (h : r < 6) : zRw (4 + 2 * r) 40 := ⟨zRw_r r h, Or.inl rfl⟩
theorem zRwT {r : Nat} (h : r < 4) : zRw (17 + 2 * r) 80 := ⟨zRw_t r h, Or.inr rfl⟩
theorem zRwR0 {r : Nat} (h : r < 6) : 4 + 2 * r < zN := zRw_k0 (zRwR h)
theorem zRwT0 {r : Nat} (h : r < 4) : 17 + 2 * r < zN := zRw_k0 (zRwT h)
/-- answer and world as a pair -/
abbrev zFi (G : zG) (M : zM) (args : List Value) (w : zW) (p : Int32 × zW) : Prop := zEi G M args w p.1 p.2
theorem s_X11_isRow {G : zG} {w : zW} (v : Int32) : zEi G mX11_isRow [.int v] w (zb (0 ≤ v ∧ v < 6)) w := by
  refine zC_of (lo := [_]) kcX11_isRow (Nat.le_of_ble_eq_true rfl) rfl (fun X hX hE => ?_)
  refine zk_iload_n hX dX11_isRow_0 rfl ?_
  refine zk_if_lt (tgt := 14) hX dX11_isRow_1 (by decide) (fun c1 => ?_) (fun c1 => ?_)
  · refine zk_iconst (v := 0) hX dX11_isRow_14 (by decide) ?_
    refine zk_zret hX hE rfl ⟨rfl, rfl⟩ dX11_isRow_15 rfl ⟨_, rfl, ?_⟩
    exact ⟨by first | exact zb_t' (by grind) | exact zb_f' (by grind), rfl⟩
  · refine zk_iload_n hX dX11_isRow_4 rfl ?_
    refine zk_bipush (v := 6) hX dX11_isRow_5 (by decide) ?_
    refine zk_icmp_ge (tgt := 14) hX dX11_isRow_7 (by decide) (fun c7 => ?_) (fun c7 => ?_)
    · refine zk_iconst (v := 0) hX dX11_isRow_14 (by decide) ?_
      refine zk_zret hX hE rfl ⟨rfl, rfl⟩ dX11_isRow_15 rfl ⟨_, rfl, ?_⟩
      exact ⟨by first | exact zb_t' (by grind) | exact zb_f' (by grind), rfl⟩
    · refine zk_iconst (v := 1) hX dX11_isRow_10 (by decide) ?_
      refine zk_goto (tgt := 15) hX dX11_isRow_11 (by decide) ?_
      refine zk_zret hX hE rfl ⟨rfl, rfl⟩ dX11_isRow_15 rfl ⟨_, rfl, ?_⟩
      exact ⟨by first | exact zb_t' (by grind) | exact zb_f' (by grind), rfl⟩
theorem s_X11_isText {G : zG} {w : zW} (v : Int32) : zEi G mX11_isText [.int v] w (zb (0 ≤ v ∧ v < 4)) w := by
  refine zC_of (lo := [_]) kcX11_isText (Nat.le_of_ble_eq_true rfl) rfl (fun X hX hE => ?_)
  refine zk_iload_n hX dX11_isText_0 rfl ?_
  refine zk_if_lt (tgt := 13) hX dX11_isText_1 (by decide) (fun c1 => ?_) (fun c1 => ?_)
  · refine zk_iconst (v := 0) hX dX11_isText_13 (by decide) ?_
    refine zk_zret hX hE rfl ⟨rfl, rfl⟩ dX11_isText_14 rfl ⟨_, rfl, ?_⟩
    exact ⟨by first | exact zb_t' (by grind) | exact zb_f' (by grind), rfl⟩
  · refine zk_iload_n hX dX11_isText_4 rfl ?_
    refine zk_iconst (v := 4) hX dX11_isText_5 (by decide) ?_
    refine zk_icmp_ge (tgt := 13) hX dX11_isText_6 (by decide) (fun c6 => ?_) (fun c6 => ?_)
    · refine zk_iconst (v := 0) hX dX11_isText_13 (by decide) ?_
      refine zk_zret hX hE rfl ⟨rfl, rfl⟩ dX11_isText_14 rfl ⟨_, rfl, ?_⟩
      exact ⟨by first | exact zb_t' (by grind) | exact zb_f' (by grind), rfl⟩
    · refine zk_iconst (v := 1) hX dX11_isText_9 (by decide) ?_
      refine zk_goto (tgt := 14) hX dX11_isText_10 (by decide) ?_
      refine zk_zret hX hE rfl ⟨rfl, rfl⟩ dX11_isText_14 rfl ⟨_, rfl, ?_⟩
      exact ⟨by first | exact zb_t' (by grind) | exact zb_f' (by grind), rfl⟩
theorem s_X11_isBeast {G : zG} {w : zW} (v : Int32) : zEi G mX11_isBeast [.int v] w (zb (0 ≤ v ∧ v < 6)) w := by
  refine zC_of (lo := [_]) kcX11_isBeast (Nat.le_of_ble_eq_true rfl) rfl (fun X hX hE => ?_)
  refine zk_iload_n hX dX11_isBeast_0 rfl ?_
  refine zk_if_lt (tgt := 14) hX dX11_isBeast_1 (by decide) (fun c1 => ?_) (fun c1 => ?_)
  · refine zk_iconst (v := 0) hX dX11_isBeast_14 (by decide) ?_
    refine zk_zret hX hE rfl ⟨rfl, rfl⟩ dX11_isBeast_15 rfl ⟨_, rfl, ?_⟩
    exact ⟨by first | exact zb_t' (by grind) | exact zb_f' (by grind), rfl⟩
  · refine zk_iload_n hX dX11_isBeast_4 rfl ?_
    refine zk_bipush (v := 6) hX dX11_isBeast_5 (by decide) ?_
    refine zk_icmp_ge (tgt := 14) hX dX11_isBeast_7 (by decide) (fun c7 => ?_) (fun c7 => ?_)
    · refine zk_iconst (v := 0) hX dX11_isBeast_14 (by decide) ?_
      refine zk_zret hX hE rfl ⟨rfl, rfl⟩ dX11_isBeast_15 rfl ⟨_, rfl, ?_⟩
      exact ⟨by first | exact zb_t' (by grind) | exact zb_f' (by grind), rfl⟩
    · refine zk_iconst (v := 1) hX dX11_isBeast_10 (by decide) ?_
      refine zk_goto (tgt := 15) hX dX11_isBeast_11 (by decide) ?_
      refine zk_zret hX hE rfl ⟨rfl, rfl⟩ dX11_isBeast_15 rfl ⟨_, rfl, ?_⟩
      exact ⟨by first | exact zb_t' (by grind) | exact zb_f' (by grind), rfl⟩
theorem s_X11_isJoint {G : zG} {w : zW} (hw : zWf w) (v : Int32) : zEi G mX11_isJoint [.ref 0, .int v] w (zb (0 ≤ v ∧ v < w.1 26 2)) w := by
  refine zC_of (lo := [_, _]) kcX11_isJoint (Nat.le_of_ble_eq_true rfl) rfl (fun X hX hE => ?_)
  refine zk_iload_n hX dX11_isJoint_0 rfl ?_
  refine zk_if_lt (tgt := 19) hX dX11_isJoint_1 (by decide) (fun c1 => ?_) (fun c1 => ?_)
  · refine zk_iconst (v := 0) hX dX11_isJoint_19 (by decide) ?_
    refine zk_zret hX hE rfl ⟨rfl, rfl⟩ dX11_isJoint_20 rfl ⟨_, rfl, ?_⟩
    exact ⟨by first | exact zb_t' (by grind) | exact zb_f' (by grind), rfl⟩
  · refine zk_iload_n hX dX11_isJoint_4 rfl ?_
    refine zk_aload_n hX dX11_isJoint_5 rfl ?_
    refine zk_getR hX dX11_isJoint_6 flX11_38 k_0 z_0 (hw _ _ (by decide) |>.trans r_0_4) ?_
    refine zk_getI hX dX11_isJoint_9 flX11_167 k_26 z_26 ?_
    refine zk_icmp_ge (tgt := 19) hX dX11_isJoint_12 (by decide) (fun c12 => ?_) (fun c12 => ?_)
    · refine zk_iconst (v := 0) hX dX11_isJoint_19 (by decide) ?_
      refine zk_zret hX hE rfl ⟨rfl, rfl⟩ dX11_isJoint_20 rfl ⟨_, rfl, ?_⟩
      exact ⟨by first | exact zb_t' (by grind) | exact zb_f' (by grind), rfl⟩
    · refine zk_iconst (v := 1) hX dX11_isJoint_15 (by decide) ?_
      refine zk_goto (tgt := 20) hX dX11_isJoint_16 (by decide) ?_
      refine zk_zret hX hE rfl ⟨rfl, rfl⟩ dX11_isJoint_20 rfl ⟨_, rfl, ?_⟩
      exact ⟨by first | exact zb_t' (by grind) | exact zb_f' (by grind), rfl⟩
theorem s_X11_isPose {G : zG} {w : zW} (hw : zWf w) (v : Int32) : zEi G mX11_isPose [.ref 0, .int v] w (zb (0 ≤ v ∧ v < w.1 0 10)) w := by
  refine zC_of (lo := [_, _]) kcX11_isPose (Nat.le_of_ble_eq_true rfl) rfl (fun X hX hE => ?_)
  refine zk_iload_n hX dX11_isPose_0 rfl ?_
  refine zk_if_lt (tgt := 16) hX dX11_isPose_1 (by decide) (fun c1 => ?_) (fun c1 => ?_)
  · refine zk_iconst (v := 0) hX dX11_isPose_16 (by decide) ?_
    refine zk_zret hX hE rfl ⟨rfl, rfl⟩ dX11_isPose_17 rfl ⟨_, rfl, ?_⟩
    exact ⟨by first | exact zb_t' (by grind) | exact zb_f' (by grind), rfl⟩
  · refine zk_iload_n hX dX11_isPose_4 rfl ?_
    refine zk_aload_n hX dX11_isPose_5 rfl ?_
    refine zk_getI hX dX11_isPose_6 flX11_213 k_0 z_0 ?_
    refine zk_icmp_ge (tgt := 16) hX dX11_isPose_9 (by decide) (fun c9 => ?_) (fun c9 => ?_)
    · refine zk_iconst (v := 0) hX dX11_isPose_16 (by decide) ?_
      refine zk_zret hX hE rfl ⟨rfl, rfl⟩ dX11_isPose_17 rfl ⟨_, rfl, ?_⟩
      exact ⟨by first | exact zb_t' (by grind) | exact zb_f' (by grind), rfl⟩
    · refine zk_iconst (v := 1) hX dX11_isPose_12 (by decide) ?_
      refine zk_goto (tgt := 17) hX dX11_isPose_13 (by decide) ?_
      refine zk_zret hX hE rfl ⟨rfl, rfl⟩ dX11_isPose_17 rfl ⟨_, rfl, ?_⟩
      exact ⟨by first | exact zb_t' (by grind) | exact zb_f' (by grind), rfl⟩
theorem s_X11_row_bad {G : zG} {w : zW} (r n : Int32) (h : ¬ ((0 ≤ r ∧ r < 6) ∧ n ≤ 40)) : zEi G mX11_row [.ref 0, .int r, .int n] w (-1) w := by
  refine zC_of (lo := [_, _, _]) kcX11_row (Nat.le_of_ble_eq_true rfl) rfl (fun X hX hE => ?_)
  refine zk_iload_n hX dX11_row_0 rfl ?_
  refine zk_S1i hX dX11_row_1 kcX11_isRow mlX11_107 smX11_isRow rfl (s_X11_isRow _) (Nat.le_of_ble_eq_true rfl) rfl ?_
  refine zk_if_eqB (tgt := 13) hX dX11_row_4 (by decide) (fun c4 => ?_) (fun c4 => ?_)
  · refine zk_iconst (v := -1) hX dX11_row_13 (by decide) ?_
    refine zk_iret hX hE rfl ⟨rfl, rfl⟩ dX11_row_14 ⟨_, rfl, ?_⟩
    exact ⟨rfl, rfl⟩
  · refine zk_iload_n hX dX11_row_7 rfl ?_
    refine zk_bipush (v := 40) hX dX11_row_8 (by decide) ?_
    refine zk_icmp_le (tgt := 15) hX dX11_row_10 (by decide) (fun c10 => ?_) (fun c10 => ?_)
    · exact absurd ⟨c4, c10⟩ h
    refine zk_iconst (v := -1) hX dX11_row_13 (by decide) ?_
    refine zk_iret hX hE rfl ⟨rfl, rfl⟩ dX11_row_14 ⟨_, rfl, ?_⟩
    exact ⟨rfl, rfl⟩
def c_row (w : zW) (r : Nat) (n : Int32) : Int32 × zW := if n < 0 then (-3, zfind w 5) else (n, zfill (zsi w (4 + 2 * r) 0 n) (5 + 2 * r) n.toNatClampNeg 0)
theorem s_X11_row {G : zG} {w : zW} (hw : zWf w) {r : Nat} (hr : r < 6) {n : Int32} (hn : n ≤ 40) : zFi G mX11_row [.ref 0, .int (nI r), .int n] w (c_row w r n) := by
  refine zC_of (lo := [_, _, _]) kcX11_row (Nat.le_of_ble_eq_true rfl) rfl (fun X hX hE => ?_)
  refine zk_iload_n hX dX11_row_0 rfl ?_
  refine zk_S1i hX dX11_row_1 kcX11_isRow mlX11_107 smX11_isRow rfl (s_X11_isRow _) (Nat.le_of_ble_eq_true rfl) rfl ?_
  refine zk_if_eqB (tgt := 13) hX dX11_row_4 (by decide) (fun c4 => ?_) (fun c4 => ?_)
  · exact absurd c4 (not_not_intro (zrlt hr))
  refine zk_iload_n hX dX11_row_7 rfl ?_
  refine zk_bipush (v := 40) hX dX11_row_8 (by decide) ?_
  refine zk_icmp_le (tgt := 15) hX dX11_row_10 (by decide) (fun c10 => ?_) (fun c10 => ?_)
  rotate_left
  · exact absurd hn c10
  refine zk_iload_n hX dX11_row_15 rfl ?_
  refine zk_if_ge (tgt := 28) hX dX11_row_16 (by decide) (fun c16 => ?_) (fun c16 => ?_)
  · obtain ⟨m, hm, rfl⟩ := znatle (n := 40) (by decide) (by grind) hn
    refine zk_aload_n hX dX11_row_28 rfl ?_
    refine zk_getR hX dX11_row_29 flX11_18 k_0 z_0 (hw _ _ (by decide) |>.trans r_0_1) ?_
    refine zk_iload_n hX dX11_row_32 rfl ?_
    refine zk_rows hX hw dX11_row_33 rfl (by first | assumption | omega) ?_
    refine zk_iload_n hX dX11_row_34 rfl ?_
    refine zk_iconst (v := 0) hX dX11_row_35 (by decide) ?_
    refine zk_V2v hX dX11_row_36 kcX8_renew mlX11_115 viX8_renew rfl (zRwR0 (by first | assumption | omega)) (zRw_r _ (by first | assumption | omega)).2.1 (s_X8_renew (zRwR hr) hw hm 0) (Nat.le_of_ble_eq_true rfl) rfl ?_
    refine zk_iload_n hX dX11_row_39 rfl ?_
    refine zk_iret hX hE rfl ⟨rfl, rfl⟩ dX11_row_40 ⟨_, rfl, ?_⟩
    unfold c_row; first | (rw [if_pos (by grind)]; exact ⟨rfl, rfl⟩) | (rw [if_neg (by grind), nI_clamp (by omega), show 5 + 2 * r = 4 + 2 * r + 1 by omega]; exact ⟨rfl, rfl⟩)
  · refine zk_aload_n hX dX11_row_19 rfl ?_
    refine zk_getR hX dX11_row_20 flX11_12 k_0 z_0 (hw _ _ (by decide) |>.trans r_0_0) ?_
    refine zk_iconst (v := 5) hX dX11_row_23 (by decide) ?_
    refine zk_V1i hX dX11_row_24 kcX9_find mlX11_111 viX9_find rfl k_1 z_1 (s_X9_find hw _ (by decide)) (Nat.le_of_ble_eq_true rfl) rfl ?_
    refine zk_iret hX hE rfl ⟨rfl, rfl⟩ dX11_row_27 ⟨_, rfl, ?_⟩
    unfold c_row; first | (rw [if_pos (by grind)]; exact ⟨rfl, rfl⟩) | (rw [if_neg (by grind), nI_clamp (by omega), show 5 + 2 * r = 4 + 2 * r + 1 by omega]; exact ⟨rfl, rfl⟩)
theorem s_X11_at_bad {G : zG} {w : zW} (r i : Int32) (h : ¬ (0 ≤ r ∧ r < 6)) : zEi G mX11_at [.ref 0, .int r, .int i] w (-1) w := by
  refine zC_of (lo := [_, _, _, _]) kcX11_at (Nat.le_of_ble_eq_true rfl) rfl (fun X hX hE => ?_)
  refine zk_iload_n hX dX11_at_0 rfl ?_
  refine zk_S1i hX dX11_at_1 kcX11_isRow mlX11_107 smX11_isRow rfl (s_X11_isRow _) (Nat.le_of_ble_eq_true rfl) rfl ?_
  refine zk_if_neB (tgt := 9) hX dX11_at_4 (by decide) (fun c4 => ?_) (fun c4 => ?_)
  · exact absurd c4 h
  refine zk_iconst (v := -1) hX dX11_at_7 (by decide) ?_
  refine zk_iret hX hE rfl ⟨rfl, rfl⟩ dX11_at_8 ⟨_, rfl, ?_⟩
  exact ⟨rfl, rfl⟩
def c_at (w : zW) (r : Nat) (i : Int32) : Int32 × zW := if ¬ 0 ≤ w.1 (4 + 2 * r) 0 then (-3, zfind w 1) else if ¬ (0 ≤ i ∧ i < w.1 (4 + 2 * r) 0) then (-3, zfind w 2) else (1, zsi w 1 0 (zRget w (4 + 2 * r) i))
theorem s_X11_at {G : zG} {w : zW} (hw : zWf w) {r : Nat} (hr : r < 6) (hS : zSz (w.1 (4 + 2 * r) 0) 40) (i : Int32) : zFi G mX11_at [.ref 0, .int (nI r), .int i] w (c_at w r i) := by
  refine zC_of (lo := [_, _, _, _]) kcX11_at (Nat.le_of_ble_eq_true rfl) rfl (fun X hX hE => ?_)
  refine zk_iload_n hX dX11_at_0 rfl ?_
  refine zk_S1i hX dX11_at_1 kcX11_isRow mlX11_107 smX11_isRow rfl (s_X11_isRow _) (Nat.le_of_ble_eq_true rfl) rfl ?_
  refine zk_if_neB (tgt := 9) hX dX11_at_4 (by decide) (fun c4 => ?_) (fun c4 => ?_)
  rotate_left
  · exact absurd (zrlt hr) c4
  refine zk_aload_n hX dX11_at_9 rfl ?_
  refine zk_getR hX dX11_at_10 flX11_18 k_0 z_0 (hw _ _ (by decide) |>.trans r_0_1) ?_
  refine zk_iload_n hX dX11_at_13 rfl ?_
  refine zk_rows hX hw dX11_at_14 rfl (by first | assumption | omega) ?_
  refine zk_astore_n (lo' := [_, _, _, _]) hX dX11_at_15 (Nat.le_of_ble_eq_true rfl) rfl rfl ?_
  refine zk_aload_n hX dX11_at_16 rfl ?_
  refine zk_V0i hX dX11_at_17 kcX8_isThere mlX11_119 viX8_isThere rfl (zRwR0 (by first | assumption | omega)) (zRw_r _ (by first | assumption | omega)).2.1 (s_X8_isThere (zRwR hr)) (Nat.le_of_ble_eq_true rfl) rfl ?_
  refine zk_if_neB (tgt := 32) hX dX11_at_20 (by decide) (fun c20 => ?_) (fun c20 => ?_)
  · refine zk_aload_n hX dX11_at_32 rfl ?_
    refine zk_iload_n hX dX11_at_33 rfl ?_
    refine zk_V1i hX dX11_at_34 kcX8_holds mlX11_123 viX8_holds rfl (zRwR0 (by first | assumption | omega)) (zRw_r _ (by first | assumption | omega)).2.1 (s_X8_holds (zRwR hr) _) (Nat.le_of_ble_eq_true rfl) rfl ?_
    refine zk_if_neB (tgt := 49) hX dX11_at_37 (by decide) (fun c37 => ?_) (fun c37 => ?_)
    · refine zk_aload_n hX dX11_at_49 rfl ?_
      refine zk_getR hX dX11_at_50 flX11_12 k_0 z_0 (hw _ _ (by decide) |>.trans r_0_0) ?_
      refine zk_aload_n hX dX11_at_53 rfl ?_
      refine zk_iload_n hX dX11_at_54 rfl ?_
      refine zk_V1i hX dX11_at_55 kcX8_get mlX11_126 viX8_get rfl (zRwR0 (by first | assumption | omega)) (zRw_r _ (by first | assumption | omega)).2.1 (s_X8_get (zRwR hr) hw hS _) (Nat.le_of_ble_eq_true rfl) rfl ?_
      refine zk_V1i hX dX11_at_58 kcX9_tell mlX11_132 viX9_tell rfl k_1 z_1 (s_X9_tell _) (Nat.le_of_ble_eq_true rfl) rfl ?_
      refine zk_iret hX hE rfl ⟨rfl, rfl⟩ dX11_at_61 ⟨_, rfl, ?_⟩
      unfold c_at; (repeat' split) <;> first | exact ⟨rfl, rfl⟩ | grind
    · refine zk_aload_n hX dX11_at_40 rfl ?_
      refine zk_getR hX dX11_at_41 flX11_12 k_0 z_0 (hw _ _ (by decide) |>.trans r_0_0) ?_
      refine zk_iconst (v := 2) hX dX11_at_44 (by decide) ?_
      refine zk_V1i hX dX11_at_45 kcX9_find mlX11_111 viX9_find rfl k_1 z_1 (s_X9_find hw _ (by decide)) (Nat.le_of_ble_eq_true rfl) rfl ?_
      refine zk_iret hX hE rfl ⟨rfl, rfl⟩ dX11_at_48 ⟨_, rfl, ?_⟩
      unfold c_at; (repeat' split) <;> first | exact ⟨rfl, rfl⟩ | grind
  · refine zk_aload_n hX dX11_at_23 rfl ?_
    refine zk_getR hX dX11_at_24 flX11_12 k_0 z_0 (hw _ _ (by decide) |>.trans r_0_0) ?_
    refine zk_iconst (v := 1) hX dX11_at_27 (by decide) ?_
    refine zk_V1i hX dX11_at_28 kcX9_find mlX11_111 viX9_find rfl k_1 z_1 (s_X9_find hw _ (by decide)) (Nat.le_of_ble_eq_true rfl) rfl ?_
    refine zk_iret hX hE rfl ⟨rfl, rfl⟩ dX11_at_31 ⟨_, rfl, ?_⟩
    unfold c_at; (repeat' split) <;> first | exact ⟨rfl, rfl⟩ | grind
theorem s_X11_lay_bad {G : zG} {w : zW} (r i v : Int32) (h : ¬ (0 ≤ r ∧ r < 6)) : zEi G mX11_lay [.ref 0, .int r, .int i, .int v] w (-1) w := by
  refine zC_of (lo := [_, _, _, _, _, _]) kcX11_lay (Nat.le_of_ble_eq_true rfl) rfl (fun X hX hE => ?_)
  refine zk_iload_n hX dX11_lay_0 rfl ?_
  refine zk_S1i hX dX11_lay_1 kcX11_isRow mlX11_107 smX11_isRow rfl (s_X11_isRow _) (Nat.le_of_ble_eq_true rfl) rfl ?_
  refine zk_if_neB (tgt := 9) hX dX11_lay_4 (by decide) (fun c4 => ?_) (fun c4 => ?_)
  · exact absurd c4 h
  refine zk_iconst (v := -1) hX dX11_lay_7 (by decide) ?_
  refine zk_iret hX hE rfl ⟨rfl, rfl⟩ dX11_lay_8 ⟨_, rfl, ?_⟩
  exact ⟨rfl, rfl⟩
def c_lay (w : zW) (r : Nat) (i v : Int32) : Int32 × zW := if ¬ 0 ≤ w.1 (4 + 2 * r) 0 then (-3, zfind w 1) else if ¬ (0 ≤ i ∧ i < w.1 (4 + 2 * r) 0) then (-3, zfind w 2) else (1, zsi (zsi w (5 + 2 * r) i.toNatClampNeg v) 1 0 (zRget w (4 + 2 * r) i))
theorem s_X11_lay {G : zG} {w : zW} (hw : zWf w) {r : Nat} (hr : r < 6) (hS : zSz (w.1 (4 + 2 * r) 0) 40) (i v : Int32) : zFi G mX11_lay [.ref 0, .int (nI r), .int i, .int v] w (c_lay w r i v) := by
  refine zC_of (lo := [_, _, _, _, _, _]) kcX11_lay (Nat.le_of_ble_eq_true rfl) rfl (fun X hX hE => ?_)
  refine zk_iload_n hX dX11_lay_0 rfl ?_
  refine zk_S1i hX dX11_lay_1 kcX11_isRow mlX11_107 smX11_isRow rfl (s_X11_isRow _) (Nat.le_of_ble_eq_true rfl) rfl ?_
  refine zk_if_neB (tgt := 9) hX dX11_lay_4 (by decide) (fun c4 => ?_) (fun c4 => ?_)
  rotate_left
  · exact absurd (zrlt hr) c4
  refine zk_aload_n hX dX11_lay_9 rfl ?_
  refine zk_getR hX dX11_lay_10 flX11_18 k_0 z_0 (hw _ _ (by decide) |>.trans r_0_1) ?_
  refine zk_iload_n hX dX11_lay_13 rfl ?_
  refine zk_rows hX hw dX11_lay_14 rfl (by first | assumption | omega) ?_
  refine zk_astore (lo' := [_, _, _, _, _, _]) hX dX11_lay_15 (Nat.le_of_ble_eq_true rfl) rfl rfl ?_
  refine zk_aload hX dX11_lay_17 rfl ?_
  refine zk_V0i hX dX11_lay_19 kcX8_isThere mlX11_119 viX8_isThere rfl (zRwR0 (by first | assumption | omega)) (zRw_r _ (by first | assumption | omega)).2.1 (s_X8_isThere (zRwR hr)) (Nat.le_of_ble_eq_true rfl) rfl ?_
  refine zk_if_neB (tgt := 34) hX dX11_lay_22 (by decide) (fun c22 => ?_) (fun c22 => ?_)
  · refine zk_aload hX dX11_lay_34 rfl ?_
    refine zk_iload_n hX dX11_lay_36 rfl ?_
    refine zk_V1i hX dX11_lay_37 kcX8_holds mlX11_123 viX8_holds rfl (zRwR0 (by first | assumption | omega)) (zRw_r _ (by first | assumption | omega)).2.1 (s_X8_holds (zRwR hr) _) (Nat.le_of_ble_eq_true rfl) rfl ?_
    refine zk_if_neB (tgt := 52) hX dX11_lay_40 (by decide) (fun c40 => ?_) (fun c40 => ?_)
    · obtain ⟨j, m, hj, hm, rfl, e⟩ := zSz_in hS (by decide) c40.1 c40.2
      refine zk_aload hX dX11_lay_52 rfl ?_
      refine zk_iload_n hX dX11_lay_54 rfl ?_
      refine zk_V1i hX dX11_lay_55 kcX8_get mlX11_126 viX8_get rfl (zRwR0 (by first | assumption | omega)) (zRw_r _ (by first | assumption | omega)).2.1 (s_X8_get (zRwR hr) hw hS _) (Nat.le_of_ble_eq_true rfl) rfl ?_
      refine zk_istore (lo' := [_, _, _, _, _, _]) hX dX11_lay_58 (Nat.le_of_ble_eq_true rfl) rfl rfl ?_
      refine zk_aload hX dX11_lay_60 rfl ?_
      refine zk_iload_n hX dX11_lay_62 rfl ?_
      refine zk_iload_n hX dX11_lay_63 rfl ?_
      refine zk_V2v hX dX11_lay_64 kcX8_set mlX11_129 viX8_set rfl (zRwR0 (by first | assumption | omega)) (zRw_r _ (by first | assumption | omega)).2.1 (s_X8_set (zRwR hr) hw hj hm e _) (Nat.le_of_ble_eq_true rfl) rfl ?_
      refine zk_aload_n hX dX11_lay_67 rfl ?_
      refine zk_getR hX dX11_lay_68 flX11_12 k_0 z_0 (hw _ _ (by decide) |>.trans r_0_0) ?_
      refine zk_iload hX dX11_lay_71 rfl ?_
      refine zk_V1i hX dX11_lay_73 kcX9_tell mlX11_132 viX9_tell rfl k_1 z_1 (s_X9_tell _) (Nat.le_of_ble_eq_true rfl) rfl ?_
      refine zk_iret hX hE rfl ⟨rfl, rfl⟩ dX11_lay_76 ⟨_, rfl, ?_⟩
      unfold c_lay; rw [if_neg (by grind), if_neg (by grind), nI_clamp (by omega), show 5 + 2 * r = 4 + 2 * r + 1 by omega]; exact ⟨rfl, rfl⟩
    · refine zk_aload_n hX dX11_lay_43 rfl ?_
      refine zk_getR hX dX11_lay_44 flX11_12 k_0 z_0 (hw _ _ (by decide) |>.trans r_0_0) ?_
      refine zk_iconst (v := 2) hX dX11_lay_47 (by decide) ?_
      refine zk_V1i hX dX11_lay_48 kcX9_find mlX11_111 viX9_find rfl k_1 z_1 (s_X9_find hw _ (by decide)) (Nat.le_of_ble_eq_true rfl) rfl ?_
      refine zk_iret hX hE rfl ⟨rfl, rfl⟩ dX11_lay_51 ⟨_, rfl, ?_⟩
      unfold c_lay; rw [if_neg (by grind), if_pos (by grind)]; exact ⟨rfl, rfl⟩
  · refine zk_aload_n hX dX11_lay_25 rfl ?_
    refine zk_getR hX dX11_lay_26 flX11_12 k_0 z_0 (hw _ _ (by decide) |>.trans r_0_0) ?_
    refine zk_iconst (v := 1) hX dX11_lay_29 (by decide) ?_
    refine zk_V1i hX dX11_lay_30 kcX9_find mlX11_111 viX9_find rfl k_1 z_1 (s_X9_find hw _ (by decide)) (Nat.le_of_ble_eq_true rfl) rfl ?_
    refine zk_iret hX hE rfl ⟨rfl, rfl⟩ dX11_lay_33 ⟨_, rfl, ?_⟩
    unfold c_lay; rw [if_pos (by grind)]; exact ⟨rfl, rfl⟩
theorem s_X11_text_bad {G : zG} {w : zW} (r n : Int32) (h : ¬ ((0 ≤ r ∧ r < 4) ∧ n ≤ 80)) : zEi G mX11_text [.ref 0, .int r, .int n] w (-1) w := by
  refine zC_of (lo := [_, _, _]) kcX11_text (Nat.le_of_ble_eq_true rfl) rfl (fun X hX hE => ?_)
  refine zk_iload_n hX dX11_text_0 rfl ?_
  refine zk_S1i hX dX11_text_1 kcX11_isText mlX11_153 smX11_isText rfl (s_X11_isText _) (Nat.le_of_ble_eq_true rfl) rfl ?_
  refine zk_if_eqB (tgt := 13) hX dX11_text_4 (by decide) (fun c4 => ?_) (fun c4 => ?_)
  · refine zk_iconst (v := -1) hX dX11_text_13 (by decide) ?_
    refine zk_iret hX hE rfl ⟨rfl, rfl⟩ dX11_text_14 ⟨_, rfl, ?_⟩
    exact ⟨rfl, rfl⟩
  · refine zk_iload_n hX dX11_text_7 rfl ?_
    refine zk_bipush (v := 80) hX dX11_text_8 (by decide) ?_
    refine zk_icmp_le (tgt := 15) hX dX11_text_10 (by decide) (fun c10 => ?_) (fun c10 => ?_)
    · exact absurd ⟨c4, c10⟩ h
    refine zk_iconst (v := -1) hX dX11_text_13 (by decide) ?_
    refine zk_iret hX hE rfl ⟨rfl, rfl⟩ dX11_text_14 ⟨_, rfl, ?_⟩
    exact ⟨rfl, rfl⟩
def c_text (w : zW) (r : Nat) (n : Int32) : Int32 × zW := if n < 0 then (-3, zfind w 5) else (n, zfill (zsi w (17 + 2 * r) 0 n) (18 + 2 * r) n.toNatClampNeg 32)
theorem s_X11_text {G : zG} {w : zW} (hw : zWf w) {r : Nat} (hr : r < 4) {n : Int32} (hn : n ≤ 80) : zFi G mX11_text [.ref 0, .int (nI r), .int n] w (c_text w r n) := by
  refine zC_of (lo := [_, _, _]) kcX11_text (Nat.le_of_ble_eq_true rfl) rfl (fun X hX hE => ?_)
  refine zk_iload_n hX dX11_text_0 rfl ?_
  refine zk_S1i hX dX11_text_1 kcX11_isText mlX11_153 smX11_isText rfl (s_X11_isText _) (Nat.le_of_ble_eq_true rfl) rfl ?_
  refine zk_if_eqB (tgt := 13) hX dX11_text_4 (by decide) (fun c4 => ?_) (fun c4 => ?_)
  · exact absurd c4 (not_not_intro (zrlt hr))
  refine zk_iload_n hX dX11_text_7 rfl ?_
  refine zk_bipush (v := 80) hX dX11_text_8 (by decide) ?_
  refine zk_icmp_le (tgt := 15) hX dX11_text_10 (by decide) (fun c10 => ?_) (fun c10 => ?_)
  rotate_left
  · exact absurd hn c10
  refine zk_iload_n hX dX11_text_15 rfl ?_
  refine zk_if_ge (tgt := 28) hX dX11_text_16 (by decide) (fun c16 => ?_) (fun c16 => ?_)
  · obtain ⟨m, hm, rfl⟩ := znatle (n := 80) (by decide) (by grind) hn
    refine zk_aload_n hX dX11_text_28 rfl ?_
    refine zk_getR hX dX11_text_29 flX11_25 k_0 z_0 (hw _ _ (by decide) |>.trans r_0_2) ?_
    refine zk_iload_n hX dX11_text_32 rfl ?_
    refine zk_texts hX hw dX11_text_33 rfl (by first | assumption | omega) ?_
    refine zk_iload_n hX dX11_text_34 rfl ?_
    refine zk_bipush (v := 32) hX dX11_text_35 (by decide) ?_
    refine zk_V2v hX dX11_text_37 kcX8_renew mlX11_115 viX8_renew rfl (zRwT0 (by first | assumption | omega)) (zRw_t _ (by first | assumption | omega)).2.1 (s_X8_renew (zRwT hr) hw hm 32) (Nat.le_of_ble_eq_true rfl) rfl ?_
    refine zk_iload_n hX dX11_text_40 rfl ?_
    refine zk_iret hX hE rfl ⟨rfl, rfl⟩ dX11_text_41 ⟨_, rfl, ?_⟩
    unfold c_text; first | (rw [if_pos (by grind)]; exact ⟨rfl, rfl⟩) | (rw [if_neg (by grind), nI_clamp (by omega), show 18 + 2 * r = 17 + 2 * r + 1 by omega]; exact ⟨rfl, rfl⟩)
  · refine zk_aload_n hX dX11_text_19 rfl ?_
    refine zk_getR hX dX11_text_20 flX11_12 k_0 z_0 (hw _ _ (by decide) |>.trans r_0_0) ?_
    refine zk_iconst (v := 5) hX dX11_text_23 (by decide) ?_
    refine zk_V1i hX dX11_text_24 kcX9_find mlX11_111 viX9_find rfl k_1 z_1 (s_X9_find hw _ (by decide)) (Nat.le_of_ble_eq_true rfl) rfl ?_
    refine zk_iret hX hE rfl ⟨rfl, rfl⟩ dX11_text_27 ⟨_, rfl, ?_⟩
    unfold c_text; first | (rw [if_pos (by grind)]; exact ⟨rfl, rfl⟩) | (rw [if_neg (by grind), nI_clamp (by omega), show 18 + 2 * r = 17 + 2 * r + 1 by omega]; exact ⟨rfl, rfl⟩)
theorem s_X11_put_bad {G : zG} {w : zW} (r i v : Int32) (h : ¬ (0 ≤ r ∧ r < 4)) : zEi G mX11_put [.ref 0, .int r, .int i, .int v] w (-1) w := by
  refine zC_of (lo := [_, _, _, _, _, _]) kcX11_put (Nat.le_of_ble_eq_true rfl) rfl (fun X hX hE => ?_)
  refine zk_iload_n hX dX11_put_0 rfl ?_
  refine zk_S1i hX dX11_put_1 kcX11_isText mlX11_153 smX11_isText rfl (s_X11_isText _) (Nat.le_of_ble_eq_true rfl) rfl ?_
  refine zk_if_neB (tgt := 9) hX dX11_put_4 (by decide) (fun c4 => ?_) (fun c4 => ?_)
  · exact absurd c4 h
  refine zk_iconst (v := -1) hX dX11_put_7 (by decide) ?_
  refine zk_iret hX hE rfl ⟨rfl, rfl⟩ dX11_put_8 ⟨_, rfl, ?_⟩
  exact ⟨rfl, rfl⟩
def c_put (w : zW) (r : Nat) (i v : Int32) : Int32 × zW := if ¬ 0 ≤ w.1 (17 + 2 * r) 0 then (-3, zfind w 1) else if ¬ (0 ≤ i ∧ i < w.1 (17 + 2 * r) 0) then (-3, zfind w 2) else (zRget w (17 + 2 * r) i + 1000, zsi w (18 + 2 * r) i.toNatClampNeg v.toInt8.toInt32)
theorem s_X11_put {G : zG} {w : zW} (hw : zWf w) {r : Nat} (hr : r < 4) (hS : zSz (w.1 (17 + 2 * r) 0) 80) (i v : Int32) : zFi G mX11_put [.ref 0, .int (nI r), .int i, .int v] w (c_put w r i v) := by
  refine zC_of (lo := [_, _, _, _, _, _]) kcX11_put (Nat.le_of_ble_eq_true rfl) rfl (fun X hX hE => ?_)
  refine zk_iload_n hX dX11_put_0 rfl ?_
  refine zk_S1i hX dX11_put_1 kcX11_isText mlX11_153 smX11_isText rfl (s_X11_isText _) (Nat.le_of_ble_eq_true rfl) rfl ?_
  refine zk_if_neB (tgt := 9) hX dX11_put_4 (by decide) (fun c4 => ?_) (fun c4 => ?_)
  rotate_left
  · exact absurd (zrlt hr) c4
  refine zk_aload_n hX dX11_put_9 rfl ?_
  refine zk_getR hX dX11_put_10 flX11_25 k_0 z_0 (hw _ _ (by decide) |>.trans r_0_2) ?_
  refine zk_iload_n hX dX11_put_13 rfl ?_
  refine zk_texts hX hw dX11_put_14 rfl (by first | assumption | omega) ?_
  refine zk_astore (lo' := [_, _, _, _, _, _]) hX dX11_put_15 (Nat.le_of_ble_eq_true rfl) rfl rfl ?_
  refine zk_aload hX dX11_put_17 rfl ?_
  refine zk_V0i hX dX11_put_19 kcX8_isThere mlX11_119 viX8_isThere rfl (zRwT0 (by first | assumption | omega)) (zRw_t _ (by first | assumption | omega)).2.1 (s_X8_isThere (zRwT hr)) (Nat.le_of_ble_eq_true rfl) rfl ?_
  refine zk_if_neB (tgt := 34) hX dX11_put_22 (by decide) (fun c22 => ?_) (fun c22 => ?_)
  · refine zk_aload hX dX11_put_34 rfl ?_
    refine zk_iload_n hX dX11_put_36 rfl ?_
    refine zk_V1i hX dX11_put_37 kcX8_holds mlX11_123 viX8_holds rfl (zRwT0 (by first | assumption | omega)) (zRw_t _ (by first | assumption | omega)).2.1 (s_X8_holds (zRwT hr) _) (Nat.le_of_ble_eq_true rfl) rfl ?_
    refine zk_if_neB (tgt := 52) hX dX11_put_40 (by decide) (fun c40 => ?_) (fun c40 => ?_)
    · obtain ⟨j, m, hj, hm, rfl, e⟩ := zSz_in hS (by decide) c40.1 c40.2
      refine zk_aload hX dX11_put_52 rfl ?_
      refine zk_iload_n hX dX11_put_54 rfl ?_
      refine zk_V1i hX dX11_put_55 kcX8_get mlX11_126 viX8_get rfl (zRwT0 (by first | assumption | omega)) (zRw_t _ (by first | assumption | omega)).2.1 (s_X8_get (zRwT hr) hw hS _) (Nat.le_of_ble_eq_true rfl) rfl ?_
      refine zk_istore (lo' := [_, _, _, _, _, _]) hX dX11_put_58 (Nat.le_of_ble_eq_true rfl) rfl rfl ?_
      refine zk_aload hX dX11_put_60 rfl ?_
      refine zk_iload_n hX dX11_put_62 rfl ?_
      refine zk_iload_n hX dX11_put_63 rfl ?_
      refine zk_i2b hX dX11_put_64 ?_
      refine zk_V2v hX dX11_put_65 kcX8_set mlX11_129 viX8_set rfl (zRwT0 (by first | assumption | omega)) (zRw_t _ (by first | assumption | omega)).2.1 (s_X8_set (zRwT hr) hw hj hm e _) (Nat.le_of_ble_eq_true rfl) rfl ?_
      refine zk_iload hX dX11_put_68 rfl ?_
      refine zk_sipush (v := 1000) hX dX11_put_70 (by decide) ?_
      refine zk_iadd hX dX11_put_73 ?_
      refine zk_iret hX hE rfl ⟨rfl, rfl⟩ dX11_put_74 ⟨_, rfl, ?_⟩
      unfold c_put; rw [if_neg (by grind), if_neg (by grind), nI_clamp (by omega), show 18 + 2 * r = 17 + 2 * r + 1 by omega]; exact ⟨rfl, rfl⟩
    · refine zk_aload_n hX dX11_put_43 rfl ?_
      refine zk_getR hX dX11_put_44 flX11_12 k_0 z_0 (hw _ _ (by decide) |>.trans r_0_0) ?_
      refine zk_iconst (v := 2) hX dX11_put_47 (by decide) ?_
      refine zk_V1i hX dX11_put_48 kcX9_find mlX11_111 viX9_find rfl k_1 z_1 (s_X9_find hw _ (by decide)) (Nat.le_of_ble_eq_true rfl) rfl ?_
      refine zk_iret hX hE rfl ⟨rfl, rfl⟩ dX11_put_51 ⟨_, rfl, ?_⟩
      unfold c_put; rw [if_neg (by grind), if_pos (by grind)]; exact ⟨rfl, rfl⟩
  · refine zk_aload_n hX dX11_put_25 rfl ?_
    refine zk_getR hX dX11_put_26 flX11_12 k_0 z_0 (hw _ _ (by decide) |>.trans r_0_0) ?_
    refine zk_iconst (v := 1) hX dX11_put_29 (by decide) ?_
    refine zk_V1i hX dX11_put_30 kcX9_find mlX11_111 viX9_find rfl k_1 z_1 (s_X9_find hw _ (by decide)) (Nat.le_of_ble_eq_true rfl) rfl ?_
    refine zk_iret hX hE rfl ⟨rfl, rfl⟩ dX11_put_33 ⟨_, rfl, ?_⟩
    unfold c_put; rw [if_pos (by grind)]; exact ⟨rfl, rfl⟩
