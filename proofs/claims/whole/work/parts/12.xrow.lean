theorem zRwR {r : Nat} (h : r < 6) : zRw (4 + 2 * r) 40 := ⟨zRw_r r h, Or.inl rfl⟩
theorem zRwT {r : Nat} (h : r < 4) : zRw (17 + 2 * r) 80 := ⟨zRw_t r h, Or.inr rfl⟩
theorem zRwR0 {r : Nat} (h : r < 6) : 4 + 2 * r < zN := zRw_k0 (zRwR h)
theorem zRwT0 {r : Nat} (h : r < 4) : 17 + 2 * r < zN := zRw_k0 (zRwT h)
/-- answer and world as a pair -/
abbrev zFi (G : zG) (M : zM) (args : List Value) (w : zW) (p : Int32 × zW) : Prop := zEi G M args w p.1 p.2
/-! small ones of the class -/
theorem s_X11_isRow {G : zG} {w : zW} (v : Int32) : zEi G mX11_isRow [.int v] w (zb (0 ≤ v ∧ v < 6)) w := by
  refine zC_of (lo := [_]) kcX11_isRow (Nat.le_of_ble_eq_true rfl) rfl (fun X hX hE => ?_)
  refine zk_iload_n hX dX11_isRow_0 rfl ?_
  refine zk_if_lt (tgt := 14) hX dX11_isRow_1 (by decide) (fun c1 => ?_) (fun c1 => ?_)
  · refine zk_iconst (v := 0) hX dX11_isRow_14 (by decide) ?_
    refine zk_zret hX hE rfl ⟨rfl, rfl⟩ dX11_isRow_15 rfl ⟨_, rfl, ?_⟩
    exact ⟨by first | exact zb_t' (by grind) | exact zb_f' (by grind), rfl⟩
  · refine zk_iload_n hX dX11_isRow_4 rfl ?_
    refine zk_bipush (v := 6) hX dX11_isRow_5 (by decide) ?_
    refine zk_icmp_ge (tgt := 14) hX dX11_isRow_7 (by decide) (fun c7 => ?_) (fun c7 => ?_)
    · refine zk_iconst (v := 0) hX dX11_isRow_14 (by decide) ?_
      refine zk_zret hX hE rfl ⟨rfl, rfl⟩ dX11_isRow_15 rfl ⟨_, rfl, ?_⟩
      exact ⟨by first | exact zb_t' (by grind) | exact zb_f' (by grind), rfl⟩
    · refine zk_iconst (v := 1) hX dX11_isRow_10 (by decide) ?_
      refine zk_goto (tgt := 15) hX dX11_isRow_11 (by decide) ?_
      refine zk_zret hX hE rfl ⟨rfl, rfl⟩ dX11_isRow_15 rfl ⟨_, rfl, ?_⟩
      exact ⟨by first | exact zb_t' (by grind) | exact zb_f' (by grind), rfl⟩
theorem s_X11_isText {G : zG} {w : zW} (v : Int32) : zEi G mX11_isText [.int v] w (zb (0 ≤ v ∧ v < 4)) w := by
  refine zC_of (lo := [_]) kcX11_isText (Nat.le_of_ble_eq_true rfl) rfl (fun X hX hE => ?_)
  refine zk_iload_n hX dX11_isText_0 rfl ?_
  refine zk_if_lt (tgt := 13) hX dX11_isText_1 (by decide) (fun c1 => ?_) (fun c1 => ?_)
  · refine zk_iconst (v := 0) hX dX11_isText_13 (by decide) ?_
    refine zk_zret hX hE rfl ⟨rfl, rfl⟩ dX11_isText_14 rfl ⟨_, rfl, ?_⟩
    exact ⟨by first | exact zb_t' (by grind) | exact zb_f' (by grind), rfl⟩
  · refine zk_iload_n hX dX11_isText_4 rfl ?_
    refine zk_iconst (v := 4) hX dX11_isText_5 (by decide) ?_
    refine zk_icmp_ge (tgt := 13) hX dX11_isText_6 (by decide) (fun c6 => ?_) (fun c6 => ?_)
    · refine zk_iconst (v := 0) hX dX11_isText_13 (by decide) ?_
      refine zk_zret hX hE rfl ⟨rfl, rfl⟩ dX11_isText_14 rfl ⟨_, rfl, ?_⟩
      exact ⟨by first | exact zb_t' (by grind) | exact zb_f' (by grind), rfl⟩
    · refine zk_iconst (v := 1) hX dX11_isText_9 (by decide) ?_
      refine zk_goto (tgt := 14) hX dX11_isText_10 (by decide) ?_
      refine zk_zret hX hE rfl ⟨rfl, rfl⟩ dX11_isText_14 rfl ⟨_, rfl, ?_⟩
      exact ⟨by first | exact zb_t' (by grind) | exact zb_f' (by grind), rfl⟩
theorem s_X11_isBeast {G : zG} {w : zW} (v : Int32) : zEi G mX11_isBeast [.int v] w (zb (0 ≤ v ∧ v < 6)) w := by
  refine zC_of (lo := [_]) kcX11_isBeast (Nat.le_of_ble_eq_true rfl) rfl (fun X hX hE => ?_)
  refine zk_iload_n hX dX11_isBeast_0 rfl ?_
  refine zk_if_lt (tgt := 14) hX dX11_isBeast_1 (by decide) (fun c1 => ?_) (fun c1 => ?_)
  · refine zk_iconst (v := 0) hX dX11_isBeast_14 (by decide) ?_
    refine zk_zret hX hE rfl ⟨rfl, rfl⟩ dX11_isBeast_15 rfl ⟨_, rfl, ?_⟩
    exact ⟨by first | exact zb_t' (by grind) | exact zb_f' (by grind), rfl⟩
  · refine zk_iload_n hX dX11_isBeast_4 rfl ?_
    refine zk_bipush (v := 6) hX dX11_isBeast_5 (by decide) ?_
    refine zk_icmp_ge (tgt := 14) hX dX11_isBeast_7 (by decide) (fun c7 => ?_) (fun c7 => ?_)
    · refine zk_iconst (v := 0) hX dX11_isBeast_14 (by decide) ?_
      refine zk_zret hX hE rfl ⟨rfl, rfl⟩ dX11_isBeast_15 rfl ⟨_, rfl, ?_⟩
      exact ⟨by first | exact zb_t' (by grind) | exact zb_f' (by grind), rfl⟩
    · refine zk_iconst (v := 1) hX dX11_isBeast_10 (by decide) ?_
      refine zk_goto (tgt := 15) hX dX11_isBeast_11 (by decide) ?_
      refine zk_zret hX hE rfl ⟨rfl, rfl⟩ dX11_isBeast_15 rfl ⟨_, rfl, ?_⟩
      exact ⟨by first | exact zb_t' (by grind) | exact zb_f' (by grind), rfl⟩
theorem s_X11_isWeight {G : zG} {w : zW} (v : Int32) : zEi G mX11_isWeight [.int v] w (zb (0 ≤ v ∧ v ≤ 9)) w := by
  refine zC_of (lo := [_]) kcX11_isWeight (Nat.le_of_ble_eq_true rfl) rfl (fun X hX hE => ?_)
  refine zk_iload_n hX dX11_isWeight_0 rfl ?_
  refine zk_if_lt (tgt := 14) hX dX11_isWeight_1 (by decide) (fun c1 => ?_) (fun c1 => ?_)
  · refine zk_iconst (v := 0) hX dX11_isWeight_14 (by decide) ?_
    refine zk_zret hX hE rfl ⟨rfl, rfl⟩ dX11_isWeight_15 rfl ⟨_, rfl, ?_⟩
    exact ⟨by first | exact zb_t' (by grind) | exact zb_f' (by grind), rfl⟩
  · refine zk_iload_n hX dX11_isWeight_4 rfl ?_
    refine zk_bipush (v := 9) hX dX11_isWeight_5 (by decide) ?_
    refine zk_icmp_gt (tgt := 14) hX dX11_isWeight_7 (by decide) (fun c7 => ?_) (fun c7 => ?_)
    · refine zk_iconst (v := 0) hX dX11_isWeight_14 (by decide) ?_
      refine zk_zret hX hE rfl ⟨rfl, rfl⟩ dX11_isWeight_15 rfl ⟨_, rfl, ?_⟩
      exact ⟨by first | exact zb_t' (by grind) | exact zb_f' (by grind), rfl⟩
    · refine zk_iconst (v := 1) hX dX11_isWeight_10 (by decide) ?_
      refine zk_goto (tgt := 15) hX dX11_isWeight_11 (by decide) ?_
      refine zk_zret hX hE rfl ⟨rfl, rfl⟩ dX11_isWeight_15 rfl ⟨_, rfl, ?_⟩
      exact ⟨by first | exact zb_t' (by grind) | exact zb_f' (by grind), rfl⟩
theorem s_X11_isShift {G : zG} {w : zW} (v : Int32) : zEi G mX11_isShift [.int v] w (zb (-3 ≤ v ∧ v ≤ 3)) w := by
  refine zC_of (lo := [_]) kcX11_isShift (Nat.le_of_ble_eq_true rfl) rfl (fun X hX hE => ?_)
  refine zk_iload_n hX dX11_isShift_0 rfl ?_
  refine zk_bipush (v := -3) hX dX11_isShift_1 (by decide) ?_
  refine zk_icmp_lt (tgt := 15) hX dX11_isShift_3 (by decide) (fun c3 => ?_) (fun c3 => ?_)
  · refine zk_iconst (v := 0) hX dX11_isShift_15 (by decide) ?_
    refine zk_zret hX hE rfl ⟨rfl, rfl⟩ dX11_isShift_16 rfl ⟨_, rfl, ?_⟩
    exact ⟨by first | exact zb_t' (by grind) | exact zb_f' (by grind), rfl⟩
  · refine zk_iload_n hX dX11_isShift_6 rfl ?_
    refine zk_iconst (v := 3) hX dX11_isShift_7 (by decide) ?_
    refine zk_icmp_gt (tgt := 15) hX dX11_isShift_8 (by decide) (fun c8 => ?_) (fun c8 => ?_)
    · refine zk_iconst (v := 0) hX dX11_isShift_15 (by decide) ?_
      refine zk_zret hX hE rfl ⟨rfl, rfl⟩ dX11_isShift_16 rfl ⟨_, rfl, ?_⟩
      exact ⟨by first | exact zb_t' (by grind) | exact zb_f' (by grind), rfl⟩
    · refine zk_iconst (v := 1) hX dX11_isShift_11 (by decide) ?_
      refine zk_goto (tgt := 16) hX dX11_isShift_12 (by decide) ?_
      refine zk_zret hX hE rfl ⟨rfl, rfl⟩ dX11_isShift_16 rfl ⟨_, rfl, ?_⟩
      exact ⟨by first | exact zb_t' (by grind) | exact zb_f' (by grind), rfl⟩
theorem s_X11_isJoint {G : zG} {w : zW} (hw : zWf w) (v : Int32) : zEi G mX11_isJoint [.ref 0, .int v] w (zb (0 ≤ v ∧ v < w.1 26 2)) w := by
  refine zC_of (lo := [_, _]) kcX11_isJoint (Nat.le_of_ble_eq_true rfl) rfl (fun X hX hE => ?_)
  refine zk_iload_n hX dX11_isJoint_0 rfl ?_
  refine zk_if_lt (tgt := 19) hX dX11_isJoint_1 (by decide) (fun c1 => ?_) (fun c1 => ?_)
  · refine zk_iconst (v := 0) hX dX11_isJoint_19 (by decide) ?_
    refine zk_zret hX hE rfl ⟨rfl, rfl⟩ dX11_isJoint_20 rfl ⟨_, rfl, ?_⟩
    exact ⟨by first | exact zb_t' (by grind) | exact zb_f' (by grind), rfl⟩
  · refine zk_iload_n hX dX11_isJoint_4 rfl ?_
    refine zk_aload_n hX dX11_isJoint_5 rfl ?_
    refine zk_getR hX dX11_isJoint_6 flX11_38 k_0 z_0 (hw _ _ (by decide) |>.trans r_0_4) ?_
    refine zk_getI hX dX11_isJoint_9 flX11_167 k_26 z_26 ?_
    refine zk_icmp_ge (tgt := 19) hX dX11_isJoint_12 (by decide) (fun c12 => ?_) (fun c12 => ?_)
    · refine zk_iconst (v := 0) hX dX11_isJoint_19 (by decide) ?_
      refine zk_zret hX hE rfl ⟨rfl, rfl⟩ dX11_isJoint_20 rfl ⟨_, rfl, ?_⟩
      exact ⟨by first | exact zb_t' (by grind) | exact zb_f' (by grind), rfl⟩
    · refine zk_iconst (v := 1) hX dX11_isJoint_15 (by decide) ?_
      refine zk_goto (tgt := 20) hX dX11_isJoint_16 (by decide) ?_
      refine zk_zret hX hE rfl ⟨rfl, rfl⟩ dX11_isJoint_20 rfl ⟨_, rfl, ?_⟩
      exact ⟨by first | exact zb_t' (by grind) | exact zb_f' (by grind), rfl⟩
theorem s_X11_isPose {G : zG} {w : zW} (hw : zWf w) (v : Int32) : zEi G mX11_isPose [.ref 0, .int v] w (zb (0 ≤ v ∧ v < w.1 0 10)) w := by
  refine zC_of (lo := [_, _]) kcX11_isPose (Nat.le_of_ble_eq_true rfl) rfl (fun X hX hE => ?_)
  refine zk_iload_n hX dX11_isPose_0 rfl ?_
  refine zk_if_lt (tgt := 16) hX dX11_isPose_1 (by decide) (fun c1 => ?_) (fun c1 => ?_)
  · refine zk_iconst (v := 0) hX dX11_isPose_16 (by decide) ?_
    refine zk_zret hX hE rfl ⟨rfl, rfl⟩ dX11_isPose_17 rfl ⟨_, rfl, ?_⟩
    exact ⟨by first | exact zb_t' (by grind) | exact zb_f' (by grind), rfl⟩
  · refine zk_iload_n hX dX11_isPose_4 rfl ?_
    refine zk_aload_n hX dX11_isPose_5 rfl ?_
    refine zk_getI hX dX11_isPose_6 flX11_213 k_0 z_0 ?_
    refine zk_icmp_ge (tgt := 16) hX dX11_isPose_9 (by decide) (fun c9 => ?_) (fun c9 => ?_)
    · refine zk_iconst (v := 0) hX dX11_isPose_16 (by decide) ?_
      refine zk_zret hX hE rfl ⟨rfl, rfl⟩ dX11_isPose_17 rfl ⟨_, rfl, ?_⟩
      exact ⟨by first | exact zb_t' (by grind) | exact zb_f' (by grind), rfl⟩
    · refine zk_iconst (v := 1) hX dX11_isPose_12 (by decide) ?_
      refine zk_goto (tgt := 17) hX dX11_isPose_13 (by decide) ?_
      refine zk_zret hX hE rfl ⟨rfl, rfl⟩ dX11_isPose_17 rfl ⟨_, rfl, ?_⟩
      exact ⟨by first | exact zb_t' (by grind) | exact zb_f' (by grind), rfl⟩
theorem s_X11_isLooker {G : zG} {w : zW} (hw : zWf w) (v : Int32) : zEi G mX11_isLooker [.ref 0, .int v] w (zb (0 ≤ v ∧ v < w.1 114 0)) w := by
  refine zC_of (lo := [_, _]) kcX11_isLooker (Nat.le_of_ble_eq_true rfl) rfl (fun X hX hE => ?_)
  refine zk_iload_n hX dX11_isLooker_0 rfl ?_
  refine zk_if_lt (tgt := 19) hX dX11_isLooker_1 (by decide) (fun c1 => ?_) (fun c1 => ?_)
  · refine zk_iconst (v := 0) hX dX11_isLooker_19 (by decide) ?_
    refine zk_zret hX hE rfl ⟨rfl, rfl⟩ dX11_isLooker_20 rfl ⟨_, rfl, ?_⟩
    exact ⟨by first | exact zb_t' (by grind) | exact zb_f' (by grind), rfl⟩
  · refine zk_iload_n hX dX11_isLooker_4 rfl ?_
    refine zk_aload_n hX dX11_isLooker_5 rfl ?_
    refine zk_getR hX dX11_isLooker_6 flX11_76 k_0 z_0 (hw _ _ (by decide) |>.trans r_0_12) ?_
    refine zk_getI hX dX11_isLooker_9 flX11_408 k_114 z_114 ?_
    refine zk_icmp_ge (tgt := 19) hX dX11_isLooker_12 (by decide) (fun c12 => ?_) (fun c12 => ?_)
    · refine zk_iconst (v := 0) hX dX11_isLooker_19 (by decide) ?_
      refine zk_zret hX hE rfl ⟨rfl, rfl⟩ dX11_isLooker_20 rfl ⟨_, rfl, ?_⟩
      exact ⟨by first | exact zb_t' (by grind) | exact zb_f' (by grind), rfl⟩
    · refine zk_iconst (v := 1) hX dX11_isLooker_15 (by decide) ?_
      refine zk_goto (tgt := 20) hX dX11_isLooker_16 (by decide) ?_
      refine zk_zret hX hE rfl ⟨rfl, rfl⟩ dX11_isLooker_20 rfl ⟨_, rfl, ?_⟩
      exact ⟨by first | exact zb_t' (by grind) | exact zb_f' (by grind), rfl⟩
/-! row .. at, of the class -/
theorem s_X11_row_bad {G : zG} {w : zW} (r n : Int32) (h : ¬ ((0 ≤ r ∧ r < 6) ∧ n ≤ 40)) : zEi G mX11_row [.ref 0, .int r, .int n] w (-1) w := by
  refine zC_of (lo := [_, _, _]) kcX11_row (Nat.le_of_ble_eq_true rfl) rfl (fun X hX hE => ?_)
  refine zk_iload_n hX dX11_row_0 rfl ?_
  refine zk_S1i hX dX11_row_1 kcX11_isRow mlX11_107 smX11_isRow rfl (s_X11_isRow _) (Nat.le_of_ble_eq_true rfl) rfl ?_
  refine zk_if_eqB (tgt := 13) hX dX11_row_4 (by decide) (fun c4 => ?_) (fun c4 => ?_)
  · refine zk_iconst (v := -1) hX dX11_row_13 (by decide) ?_
    refine zk_iret hX hE rfl ⟨rfl, rfl⟩ dX11_row_14 ⟨_, rfl, ?_⟩
    exact ⟨rfl, rfl⟩
  · refine zk_iload_n hX dX11_row_7 rfl ?_
    refine zk_bipush (v := 40) hX dX11_row_8 (by decide) ?_
    refine zk_icmp_le (tgt := 15) hX dX11_row_10 (by decide) (fun c10 => ?_) (fun c10 => ?_)
    · exact absurd ⟨c4, c10⟩ h
    refine zk_iconst (v := -1) hX dX11_row_13 (by decide) ?_
    refine zk_iret hX hE rfl ⟨rfl, rfl⟩ dX11_row_14 ⟨_, rfl, ?_⟩
    exact ⟨rfl, rfl⟩
def c_row (w : zW) (r : Nat) (n : Int32) : Int32 × zW := if n < 0 then (-3, zfind w 5) else (n, zfill (zsi w (4 + 2 * r) 0 n) (5 + 2 * r) n.toNatClampNeg 0)
theorem s_X11_row {G : zG} {w : zW} (hw : zWf w) {r : Nat} (hr : r < 6) {n : Int32} (hn : n ≤ 40) : zFi G mX11_row [.ref 0, .int (nI r), .int n] w (c_row w r n) := by
  refine zC_of (lo := [_, _, _]) kcX11_row (Nat.le_of_ble_eq_true rfl) rfl (fun X hX hE => ?_)
  refine zk_iload_n hX dX11_row_0 rfl ?_
  refine zk_S1i hX dX11_row_1 kcX11_isRow mlX11_107 smX11_isRow rfl (s_X11_isRow _) (Nat.le_of_ble_eq_true rfl) rfl ?_
  refine zk_if_eqB (tgt := 13) hX dX11_row_4 (by decide) (fun c4 => ?_) (fun c4 => ?_)
  · exact absurd c4 (not_not_intro (zrlt hr))
  refine zk_iload_n hX dX11_row_7 rfl ?_
  refine zk_bipush (v := 40) hX dX11_row_8 (by decide) ?_
  refine zk_icmp_le (tgt := 15) hX dX11_row_10 (by decide) (fun c10 => ?_) (fun c10 => ?_)
  rotate_left
  · exact absurd hn c10
  refine zk_iload_n hX dX11_row_15 rfl ?_
  refine zk_if_ge (tgt := 28) hX dX11_row_16 (by decide) (fun c16 => ?_) (fun c16 => ?_)
  · obtain ⟨m, hm, rfl⟩ := znatle (n := 40) (by decide) (by grind) hn
    refine zk_aload_n hX dX11_row_28 rfl ?_
    refine zk_getR hX dX11_row_29 flX11_18 k_0 z_0 (hw _ _ (by decide) |>.trans r_0_1) ?_
    refine zk_iload_n hX dX11_row_32 rfl ?_
    refine zk_rows hX hw dX11_row_33 rfl (by first | assumption | omega) ?_
    refine zk_iload_n hX dX11_row_34 rfl ?_
    refine zk_iconst (v := 0) hX dX11_row_35 (by decide) ?_
    refine zk_V2v hX dX11_row_36 kcX8_renew mlX11_115 viX8_renew rfl (zRwR0 (by first | assumption | omega)) (zRw_r _ (by first | assumption | omega)).2.1 (s_X8_renew (zRwR hr) hw hm 0) (Nat.le_of_ble_eq_true rfl) rfl ?_
    refine zk_iload_n hX dX11_row_39 rfl ?_
    refine zk_iret hX hE rfl ⟨rfl, rfl⟩ dX11_row_40 ⟨_, rfl, ?_⟩
    unfold c_row; first | (rw [if_pos (by grind)]; exact ⟨rfl, rfl⟩) | (rw [if_neg (by grind), nI_clamp (by omega), show 5 + 2 * r = 4 + 2 * r + 1 by omega]; exact ⟨rfl, rfl⟩)
  · refine zk_aload_n hX dX11_row_19 rfl ?_
    refine zk_getR hX dX11_row_20 flX11_12 k_0 z_0 (hw _ _ (by decide) |>.trans r_0_0) ?_
    refine zk_iconst (v := 5) hX dX11_row_23 (by decide) ?_
    refine zk_V1i hX dX11_row_24 kcX9_find mlX11_111 viX9_find rfl k_1 z_1 (s_X9_find hw _ (by decide)) (Nat.le_of_ble_eq_true rfl) rfl ?_
    refine zk_iret hX hE rfl ⟨rfl, rfl⟩ dX11_row_27 ⟨_, rfl, ?_⟩
    unfold c_row; first | (rw [if_pos (by grind)]; exact ⟨rfl, rfl⟩) | (rw [if_neg (by grind), nI_clamp (by omega), show 5 + 2 * r = 4 + 2 * r + 1 by omega]; exact ⟨rfl, rfl⟩)
theorem s_X11_at_bad {G : zG} {w : zW} (r i : Int32) (h : ¬ (0 ≤ r ∧ r < 6)) : zEi G mX11_at [.ref 0, .int r, .int i] w (-1) w := by
  refine zC_of (lo := [_, _, _, _]) kcX11_at (Nat.le_of_ble_eq_true rfl) rfl (fun X hX hE => ?_)
  refine zk_iload_n hX dX11_at_0 rfl ?_
  refine zk_S1i hX dX11_at_1 kcX11_isRow mlX11_107 smX11_isRow rfl (s_X11_isRow _) (Nat.le_of_ble_eq_true rfl) rfl ?_
  refine zk_if_neB (tgt := 9) hX dX11_at_4 (by decide) (fun c4 => ?_) (fun c4 => ?_)
  · exact absurd c4 h
  refine zk_iconst (v := -1) hX dX11_at_7 (by decide) ?_
  refine zk_iret hX hE rfl ⟨rfl, rfl⟩ dX11_at_8 ⟨_, rfl, ?_⟩
  exact ⟨rfl, rfl⟩
def c_at (w : zW) (r : Nat) (i : Int32) : Int32 × zW := if ¬ 0 ≤ w.1 (4 + 2 * r) 0 then (-3, zfind w 1) else if ¬ (0 ≤ i ∧ i < w.1 (4 + 2 * r) 0) then (-3, zfind w 2) else (1, zsi w 1 0 (zRget w (4 + 2 * r) i))
theorem s_X11_at {G : zG} {w : zW} (hw : zWf w) {r : Nat} (hr : r < 6) (hS : zSz (w.1 (4 + 2 * r) 0) 40) (i : Int32) : zFi G mX11_at [.ref 0, .int (nI r), .int i] w (c_at w r i) := by
  refine zC_of (lo := [_, _, _, _]) kcX11_at (Nat.le_of_ble_eq_true rfl) rfl (fun X hX hE => ?_)
  refine zk_iload_n hX dX11_at_0 rfl ?_
  refine zk_S1i hX dX11_at_1 kcX11_isRow mlX11_107 smX11_isRow rfl (s_X11_isRow _) (Nat.le_of_ble_eq_true rfl) rfl ?_
  refine zk_if_neB (tgt := 9) hX dX11_at_4 (by decide) (fun c4 => ?_) (fun c4 => ?_)
  rotate_left
  · exact absurd (zrlt hr) c4
  refine zk_aload_n hX dX11_at_9 rfl ?_
  refine zk_getR hX dX11_at_10 flX11_18 k_0 z_0 (hw _ _ (by decide) |>.trans r_0_1) ?_
  refine zk_iload_n hX dX11_at_13 rfl ?_
  refine zk_rows hX hw dX11_at_14 rfl (by first | assumption | omega) ?_
  refine zk_astore_n (lo' := [_, _, _, _]) hX dX11_at_15 (Nat.le_of_ble_eq_true rfl) rfl rfl ?_
  refine zk_aload_n hX dX11_at_16 rfl ?_
  refine zk_V0i hX dX11_at_17 kcX8_isThere mlX11_119 viX8_isThere rfl (zRwR0 (by first | assumption | omega)) (zRw_r _ (by first | assumption | omega)).2.1 (s_X8_isThere (zRwR hr)) (Nat.le_of_ble_eq_true rfl) rfl ?_
  refine zk_if_neB (tgt := 32) hX dX11_at_20 (by decide) (fun c20 => ?_) (fun c20 => ?_)
  · refine zk_aload_n hX dX11_at_32 rfl ?_
    refine zk_iload_n hX dX11_at_33 rfl ?_
    refine zk_V1i hX dX11_at_34 kcX8_holds mlX11_123 viX8_holds rfl (zRwR0 (by first | assumption | omega)) (zRw_r _ (by first | assumption | omega)).2.1 (s_X8_holds (zRwR hr) _) (Nat.le_of_ble_eq_true rfl) rfl ?_
    refine zk_if_neB (tgt := 49) hX dX11_at_37 (by decide) (fun c37 => ?_) (fun c37 => ?_)
    · refine zk_aload_n hX dX11_at_49 rfl ?_
      refine zk_getR hX dX11_at_50 flX11_12 k_0 z_0 (hw _ _ (by decide) |>.trans r_0_0) ?_
      refine zk_aload_n hX dX11_at_53 rfl ?_
      refine zk_iload_n hX dX11_at_54 rfl ?_
      refine zk_V1i hX dX11_at_55 kcX8_get mlX11_126 viX8_get rfl (zRwR0 (by first | assumption | omega)) (zRw_r _ (by first | assumption | omega)).2.1 (s_X8_get (zRwR hr) hw hS _) (Nat.le_of_ble_eq_true rfl) rfl ?_
      refine zk_V1i hX dX11_at_58 kcX9_tell mlX11_132 viX9_tell rfl k_1 z_1 (s_X9_tell _) (Nat.le_of_ble_eq_true rfl) rfl ?_
      refine zk_iret hX hE rfl ⟨rfl, rfl⟩ dX11_at_61 ⟨_, rfl, ?_⟩
      unfold c_at; (repeat' split) <;> first | exact ⟨rfl, rfl⟩ | grind
    · refine zk_aload_n hX dX11_at_40 rfl ?_
      refine zk_getR hX dX11_at_41 flX11_12 k_0 z_0 (hw _ _ (by decide) |>.trans r_0_0) ?_
      refine zk_iconst (v := 2) hX dX11_at_44 (by decide) ?_
      refine zk_V1i hX dX11_at_45 kcX9_find mlX11_111 viX9_find rfl k_1 z_1 (s_X9_find hw _ (by decide)) (Nat.le_of_ble_eq_true rfl) rfl ?_
      refine zk_iret hX hE rfl ⟨rfl, rfl⟩ dX11_at_48 ⟨_, rfl, ?_⟩
      unfold c_at; (repeat' split) <;> first | exact ⟨rfl, rfl⟩ | grind
  · refine zk_aload_n hX dX11_at_23 rfl ?_
    refine zk_getR hX dX11_at_24 flX11_12 k_0 z_0 (hw _ _ (by decide) |>.trans r_0_0) ?_
    refine zk_iconst (v := 1) hX dX11_at_27 (by decide) ?_
    refine zk_V1i hX dX11_at_28 kcX9_find mlX11_111 viX9_find rfl k_1 z_1 (s_X9_find hw _ (by decide)) (Nat.le_of_ble_eq_true rfl) rfl ?_
    refine zk_iret hX hE rfl ⟨rfl, rfl⟩ dX11_at_31 ⟨_, rfl, ?_⟩
    unfold c_at; (repeat' split) <;> first | exact ⟨rfl, rfl⟩ | grind
theorem s_X11_lay_bad {G : zG} {w : zW} (r i v : Int32) (h : ¬ (0 ≤ r ∧ r < 6)) : zEi G mX11_lay [.ref 0, .int r, .int i, .int v] w (-1) w := by
  refine zC_of (lo := [_, _, _, _, _, _]) kcX11_lay (Nat.le_of_ble_eq_true rfl) rfl (fun X hX hE => ?_)
  refine zk_iload_n hX dX11_lay_0 rfl ?_
  refine zk_S1i hX dX11_lay_1 kcX11_isRow mlX11_107 smX11_isRow rfl (s_X11_isRow _) (Nat.le_of_ble_eq_true rfl) rfl ?_
  refine zk_if_neB (tgt := 9) hX dX11_lay_4 (by decide) (fun c4 => ?_) (fun c4 => ?_)
  · exact absurd c4 h
  refine zk_iconst (v := -1) hX dX11_lay_7 (by decide) ?_
  refine zk_iret hX hE rfl ⟨rfl, rfl⟩ dX11_lay_8 ⟨_, rfl, ?_⟩
  exact ⟨rfl, rfl⟩
def c_lay (w : zW) (r : Nat) (i v : Int32) : Int32 × zW := if ¬ 0 ≤ w.1 (4 + 2 * r) 0 then (-3, zfind w 1) else if ¬ (0 ≤ i ∧ i < w.1 (4 + 2 * r) 0) then (-3, zfind w 2) else (1, zsi (zsi w (5 + 2 * r) i.toNatClampNeg v) 1 0 (zRget w (4 + 2 * r) i))
theorem s_X11_lay {G : zG} {w : zW} (hw : zWf w) {r : Nat} (hr : r < 6) (hS : zSz (w.1 (4 + 2 * r) 0) 40) (i v : Int32) : zFi G mX11_lay [.ref 0, .int (nI r), .int i, .int v] w (c_lay w r i v) := by
  refine zC_of (lo := [_, _, _, _, _, _]) kcX11_lay (Nat.le_of_ble_eq_true rfl) rfl (fun X hX hE => ?_)
  refine zk_iload_n hX dX11_lay_0 rfl ?_
  refine zk_S1i hX dX11_lay_1 kcX11_isRow mlX11_107 smX11_isRow rfl (s_X11_isRow _) (Nat.le_of_ble_eq_true rfl) rfl ?_
  refine zk_if_neB (tgt := 9) hX dX11_lay_4 (by decide) (fun c4 => ?_) (fun c4 => ?_)
  rotate_left
  · exact absurd (zrlt hr) c4
  refine zk_aload_n hX dX11_lay_9 rfl ?_
  refine zk_getR hX dX11_lay_10 flX11_18 k_0 z_0 (hw _ _ (by decide) |>.trans r_0_1) ?_
  refine zk_iload_n hX dX11_lay_13 rfl ?_
  refine zk_rows hX hw dX11_lay_14 rfl (by first | assumption | omega) ?_
  refine zk_astore (lo' := [_, _, _, _, _, _]) hX dX11_lay_15 (Nat.le_of_ble_eq_true rfl) rfl rfl ?_
  refine zk_aload hX dX11_lay_17 rfl ?_
  refine zk_V0i hX dX11_lay_19 kcX8_isThere mlX11_119 viX8_isThere rfl (zRwR0 (by first | assumption | omega)) (zRw_r _ (by first | assumption | omega)).2.1 (s_X8_isThere (zRwR hr)) (Nat.le_of_ble_eq_true rfl) rfl ?_
  refine zk_if_neB (tgt := 34) hX dX11_lay_22 (by decide) (fun c22 => ?_) (fun c22 => ?_)
  · refine zk_aload hX dX11_lay_34 rfl ?_
    refine zk_iload_n hX dX11_lay_36 rfl ?_
    refine zk_V1i hX dX11_lay_37 kcX8_holds mlX11_123 viX8_holds rfl (zRwR0 (by first | assumption | omega)) (zRw_r _ (by first | assumption | omega)).2.1 (s_X8_holds (zRwR hr) _) (Nat.le_of_ble_eq_true rfl) rfl ?_
    refine zk_if_neB (tgt := 52) hX dX11_lay_40 (by decide) (fun c40 => ?_) (fun c40 => ?_)
    · obtain ⟨j, m, hj, hm, rfl, e⟩ := zSz_in hS (by decide) c40.1 c40.2
      refine zk_aload hX dX11_lay_52 rfl ?_
      refine zk_iload_n hX dX11_lay_54 rfl ?_
      refine zk_V1i hX dX11_lay_55 kcX8_get mlX11_126 viX8_get rfl (zRwR0 (by first | assumption | omega)) (zRw_r _ (by first | assumption | omega)).2.1 (s_X8_get (zRwR hr) hw hS _) (Nat.le_of_ble_eq_true rfl) rfl ?_
      refine zk_istore (lo' := [_, _, _, _, _, _]) hX dX11_lay_58 (Nat.le_of_ble_eq_true rfl) rfl rfl ?_
      refine zk_aload hX dX11_lay_60 rfl ?_
      refine zk_iload_n hX dX11_lay_62 rfl ?_
      refine zk_iload_n hX dX11_lay_63 rfl ?_
      refine zk_V2v hX dX11_lay_64 kcX8_set mlX11_129 viX8_set rfl (zRwR0 (by first | assumption | omega)) (zRw_r _ (by first | assumption | omega)).2.1 (s_X8_set (zRwR hr) hw hj hm e _) (Nat.le_of_ble_eq_true rfl) rfl ?_
      refine zk_aload_n hX dX11_lay_67 rfl ?_
      refine zk_getR hX dX11_lay_68 flX11_12 k_0 z_0 (hw _ _ (by decide) |>.trans r_0_0) ?_
      refine zk_iload hX dX11_lay_71 rfl ?_
      refine zk_V1i hX dX11_lay_73 kcX9_tell mlX11_132 viX9_tell rfl k_1 z_1 (s_X9_tell _) (Nat.le_of_ble_eq_true rfl) rfl ?_
      refine zk_iret hX hE rfl ⟨rfl, rfl⟩ dX11_lay_76 ⟨_, rfl, ?_⟩
      unfold c_lay; rw [if_neg (by grind), if_neg (by grind), nI_clamp (by omega), show 5 + 2 * r = 4 + 2 * r + 1 by omega]; exact ⟨rfl, rfl⟩
    · refine zk_aload_n hX dX11_lay_43 rfl ?_
      refine zk_getR hX dX11_lay_44 flX11_12 k_0 z_0 (hw _ _ (by decide) |>.trans r_0_0) ?_
      refine zk_iconst (v := 2) hX dX11_lay_47 (by decide) ?_
      refine zk_V1i hX dX11_lay_48 kcX9_find mlX11_111 viX9_find rfl k_1 z_1 (s_X9_find hw _ (by decide)) (Nat.le_of_ble_eq_true rfl) rfl ?_
      refine zk_iret hX hE rfl ⟨rfl, rfl⟩ dX11_lay_51 ⟨_, rfl, ?_⟩
      unfold c_lay; rw [if_neg (by grind), if_pos (by grind)]; exact ⟨rfl, rfl⟩
  · refine zk_aload_n hX dX11_lay_25 rfl ?_
    refine zk_getR hX dX11_lay_26 flX11_12 k_0 z_0 (hw _ _ (by decide) |>.trans r_0_0) ?_
    refine zk_iconst (v := 1) hX dX11_lay_29 (by decide) ?_
    refine zk_V1i hX dX11_lay_30 kcX9_find mlX11_111 viX9_find rfl k_1 z_1 (s_X9_find hw _ (by decide)) (Nat.le_of_ble_eq_true rfl) rfl ?_
    refine zk_iret hX hE rfl ⟨rfl, rfl⟩ dX11_lay_33 ⟨_, rfl, ?_⟩
    unfold c_lay; rw [if_pos (by grind)]; exact ⟨rfl, rfl⟩
theorem s_X11_tear_bad {G : zG} {w : zW} (r : Int32) (h : ¬ (0 ≤ r ∧ r < 6)) : zEi G mX11_tear [.ref 0, .int r] w (-1) w := by
  refine zC_of (lo := [_, _]) kcX11_tear (Nat.le_of_ble_eq_true rfl) rfl (fun X hX hE => ?_)
  refine zk_iload_n hX dX11_tear_0 rfl ?_
  refine zk_S1i hX dX11_tear_1 kcX11_isRow mlX11_107 smX11_isRow rfl (s_X11_isRow _) (Nat.le_of_ble_eq_true rfl) rfl ?_
  refine zk_if_neB (tgt := 9) hX dX11_tear_4 (by decide) (fun c4 => ?_) (fun c4 => ?_)
  · exact absurd c4 h
  refine zk_iconst (v := -1) hX dX11_tear_7 (by decide) ?_
  refine zk_iret hX hE rfl ⟨rfl, rfl⟩ dX11_tear_8 ⟨_, rfl, ?_⟩
  exact ⟨rfl, rfl⟩
def c_tear (w : zW) (r : Nat) : Int32 × zW := if ¬ 0 ≤ w.1 (4 + 2 * r) 0 then (-3, zfind w 1) else (1, zsi w (4 + 2 * r) 0 (-1))
theorem s_X11_tear {G : zG} {w : zW} (hw : zWf w) {r : Nat} (hr : r < 6) : zFi G mX11_tear [.ref 0, .int (nI r)] w (c_tear w r) := by
  refine zC_of (lo := [_, _]) kcX11_tear (Nat.le_of_ble_eq_true rfl) rfl (fun X hX hE => ?_)
  refine zk_iload_n hX dX11_tear_0 rfl ?_
  refine zk_S1i hX dX11_tear_1 kcX11_isRow mlX11_107 smX11_isRow rfl (s_X11_isRow _) (Nat.le_of_ble_eq_true rfl) rfl ?_
  refine zk_if_neB (tgt := 9) hX dX11_tear_4 (by decide) (fun c4 => ?_) (fun c4 => ?_)
  rotate_left
  · exact absurd (zrlt hr) c4
  refine zk_aload_n hX dX11_tear_9 rfl ?_
  refine zk_getR hX dX11_tear_10 flX11_18 k_0 z_0 (hw _ _ (by decide) |>.trans r_0_1) ?_
  refine zk_iload_n hX dX11_tear_13 rfl ?_
  refine zk_rows hX hw dX11_tear_14 rfl (by first | assumption | omega) ?_
  refine zk_V0i hX dX11_tear_15 kcX8_isThere mlX11_119 viX8_isThere rfl (zRwR0 (by first | assumption | omega)) (zRw_r _ (by first | assumption | omega)).2.1 (s_X8_isThere (zRwR hr)) (Nat.le_of_ble_eq_true rfl) rfl ?_
  refine zk_if_neB (tgt := 30) hX dX11_tear_18 (by decide) (fun c18 => ?_) (fun c18 => ?_)
  · refine zk_aload_n hX dX11_tear_30 rfl ?_
    refine zk_getR hX dX11_tear_31 flX11_18 k_0 z_0 (hw _ _ (by decide) |>.trans r_0_1) ?_
    refine zk_iload_n hX dX11_tear_34 rfl ?_
    refine zk_rows hX hw dX11_tear_35 rfl (by first | assumption | omega) ?_
    refine zk_V0v hX dX11_tear_36 kcX8_lose mlX11_135 viX8_lose rfl (zRwR0 (by first | assumption | omega)) (zRw_r _ (by first | assumption | omega)).2.1 (s_X8_lose (zRwR hr)) (Nat.le_of_ble_eq_true rfl) rfl ?_
    refine zk_iconst (v := 1) hX dX11_tear_39 (by decide) ?_
    refine zk_iret hX hE rfl ⟨rfl, rfl⟩ dX11_tear_40 ⟨_, rfl, ?_⟩
    unfold c_tear; (repeat' split) <;> first | exact ⟨rfl, rfl⟩ | grind
  · refine zk_aload_n hX dX11_tear_21 rfl ?_
    refine zk_getR hX dX11_tear_22 flX11_12 k_0 z_0 (hw _ _ (by decide) |>.trans r_0_0) ?_
    refine zk_iconst (v := 1) hX dX11_tear_25 (by decide) ?_
    refine zk_V1i hX dX11_tear_26 kcX9_find mlX11_111 viX9_find rfl k_1 z_1 (s_X9_find hw _ (by decide)) (Nat.le_of_ble_eq_true rfl) rfl ?_
    refine zk_iret hX hE rfl ⟨rfl, rfl⟩ dX11_tear_29 ⟨_, rfl, ?_⟩
    unfold c_tear; (repeat' split) <;> first | exact ⟨rfl, rfl⟩ | grind
theorem s_X11_mean_bad {G : zG} {w : zW} (r : Int32) (h : ¬ (0 ≤ r ∧ r < 6)) : zEi G mX11_mean [.ref 0, .int r] w (-1) w := by
  refine zC_of (lo := [_, _, _]) kcX11_mean (Nat.le_of_ble_eq_true rfl) rfl (fun X hX hE => ?_)
  refine zk_iload_n hX dX11_mean_0 rfl ?_
  refine zk_S1i hX dX11_mean_1 kcX11_isRow mlX11_107 smX11_isRow rfl (s_X11_isRow _) (Nat.le_of_ble_eq_true rfl) rfl ?_
  refine zk_if_neB (tgt := 9) hX dX11_mean_4 (by decide) (fun c4 => ?_) (fun c4 => ?_)
  · exact absurd c4 h
  refine zk_iconst (v := -1) hX dX11_mean_7 (by decide) ?_
  refine zk_iret hX hE rfl ⟨rfl, rfl⟩ dX11_mean_8 ⟨_, rfl, ?_⟩
  exact ⟨rfl, rfl⟩
def c_mean (w : zW) (r : Nat) : Int32 × zW := if ¬ 0 ≤ w.1 (4 + 2 * r) 0 then (-3, zfind w 1) else if w.1 (4 + 2 * r) 0 < 1 then (-3, zfind w 4) else (1, zsi w 1 0 (zsumL (w.1 (5 + 2 * r)) (w.1 (4 + 2 * r) 0).toNatClampNeg / (w.1 (4 + 2 * r) 0).toInt64).toInt32)
theorem z64_0 {m : Nat} (hm : m ≤ 80) (h : 0 < m) : ¬ (nI m).toInt64 = 0 := by
  rw [nI_l (by omega)]
  intro q
  have := (lN_eq (a := m) (b := 0) (by omega) (by decide)).mp q
  omega
theorem s_X11_mean {G : zG} {w : zW} (hw : zWf w) {r : Nat} (hr : r < 6) (hS : zSz (w.1 (4 + 2 * r) 0) 40) : zFi G mX11_mean [.ref 0, .int (nI r)] w (c_mean w r) := by
  refine zC_of (lo := [_, _, _]) kcX11_mean (Nat.le_of_ble_eq_true rfl) rfl (fun X hX hE => ?_)
  refine zk_iload_n hX dX11_mean_0 rfl ?_
  refine zk_S1i hX dX11_mean_1 kcX11_isRow mlX11_107 smX11_isRow rfl (s_X11_isRow _) (Nat.le_of_ble_eq_true rfl) rfl ?_
  refine zk_if_neB (tgt := 9) hX dX11_mean_4 (by decide) (fun c4 => ?_) (fun c4 => ?_)
  rotate_left
  · exact absurd (zrlt hr) c4
  refine zk_aload_n hX dX11_mean_9 rfl ?_
  refine zk_getR hX dX11_mean_10 flX11_18 k_0 z_0 (hw _ _ (by decide) |>.trans r_0_1) ?_
  refine zk_iload_n hX dX11_mean_13 rfl ?_
  refine zk_rows hX hw dX11_mean_14 rfl (by first | assumption | omega) ?_
  refine zk_astore_n (lo' := [_, _, _]) hX dX11_mean_15 (Nat.le_of_ble_eq_true rfl) rfl rfl ?_
  refine zk_aload_n hX dX11_mean_16 rfl ?_
  refine zk_V0i hX dX11_mean_17 kcX8_isThere mlX11_119 viX8_isThere rfl (zRwR0 (by first | assumption | omega)) (zRw_r _ (by first | assumption | omega)).2.1 (s_X8_isThere (zRwR hr)) (Nat.le_of_ble_eq_true rfl) rfl ?_
  refine zk_if_neB (tgt := 32) hX dX11_mean_20 (by decide) (fun c20 => ?_) (fun c20 => ?_)
  · refine zk_aload_n hX dX11_mean_32 rfl ?_
    refine zk_getI hX dX11_mean_33 flX11_146 (zRwR0 (by first | assumption | omega)) (zRw_r _ (by first | assumption | omega)).2.1 ?_
    refine zk_iconst (v := 1) hX dX11_mean_36 (by decide) ?_
    refine zk_icmp_ge (tgt := 49) hX dX11_mean_37 (by decide) (fun c37 => ?_) (fun c37 => ?_)
    · obtain ⟨m, hm, e⟩ := zSz_nat hS (by grind)
      have hm1 : 0 < m := by
        rcases Nat.eq_zero_or_pos m with rfl | h
        · rw [e] at c37; exact absurd c37 (by decide)
        · exact h
      refine zk_aload_n hX dX11_mean_49 rfl ?_
      refine zk_getR hX dX11_mean_50 flX11_12 k_0 z_0 (hw _ _ (by decide) |>.trans r_0_0) ?_
      refine zk_aload_n hX dX11_mean_53 rfl ?_
      refine zk_V0l hX dX11_mean_54 kcX8_sum mlX11_149 viX8_sum rfl (zRwR0 (by first | assumption | omega)) (zRw_r _ (by first | assumption | omega)).2.1 (s_X8_sum (zRwR hr) hw hm e) (Nat.le_of_ble_eq_true rfl) rfl ?_
      refine zk_aload_n hX dX11_mean_57 rfl ?_
      refine zk_getI hX dX11_mean_58 flX11_146 (zRwR0 (by first | assumption | omega)) (zRw_r _ (by first | assumption | omega)).2.1 ?_
      refine zk_i2l hX dX11_mean_61 ?_
      refine zk_ldiv hX dX11_mean_62 (by rw [e]; exact z64_0 (by omega) hm1) ?_
      refine zk_l2i hX dX11_mean_63 ?_
      refine zk_V1i hX dX11_mean_64 kcX9_tell mlX11_132 viX9_tell rfl k_1 z_1 (s_X9_tell _) (Nat.le_of_ble_eq_true rfl) rfl ?_
      refine zk_iret hX hE rfl ⟨rfl, rfl⟩ dX11_mean_67 ⟨_, rfl, ?_⟩
      unfold c_mean; rw [if_neg (by grind), if_neg (by grind), e, nI_clamp (by omega), show 5 + 2 * r = 4 + 2 * r + 1 by omega]; exact ⟨rfl, rfl⟩
    · refine zk_aload_n hX dX11_mean_40 rfl ?_
      refine zk_getR hX dX11_mean_41 flX11_12 k_0 z_0 (hw _ _ (by decide) |>.trans r_0_0) ?_
      refine zk_iconst (v := 4) hX dX11_mean_44 (by decide) ?_
      refine zk_V1i hX dX11_mean_45 kcX9_find mlX11_111 viX9_find rfl k_1 z_1 (s_X9_find hw _ (by decide)) (Nat.le_of_ble_eq_true rfl) rfl ?_
      refine zk_iret hX hE rfl ⟨rfl, rfl⟩ dX11_mean_48 ⟨_, rfl, ?_⟩
      unfold c_mean; rw [if_neg (by grind), if_pos (by grind)]; exact ⟨rfl, rfl⟩
  · refine zk_aload_n hX dX11_mean_23 rfl ?_
    refine zk_getR hX dX11_mean_24 flX11_12 k_0 z_0 (hw _ _ (by decide) |>.trans r_0_0) ?_
    refine zk_iconst (v := 1) hX dX11_mean_27 (by decide) ?_
    refine zk_V1i hX dX11_mean_28 kcX9_find mlX11_111 viX9_find rfl k_1 z_1 (s_X9_find hw _ (by decide)) (Nat.le_of_ble_eq_true rfl) rfl ?_
    refine zk_iret hX hE rfl ⟨rfl, rfl⟩ dX11_mean_31 ⟨_, rfl, ?_⟩
    unfold c_mean; rw [if_pos (by grind)]; exact ⟨rfl, rfl⟩
theorem s_X11_text_bad {G : zG} {w : zW} (r n : Int32) (h : ¬ ((0 ≤ r ∧ r < 4) ∧ n ≤ 80)) : zEi G mX11_text [.ref 0, .int r, .int n] w (-1) w := by
  refine zC_of (lo := [_, _, _]) kcX11_text (Nat.le_of_ble_eq_true rfl) rfl (fun X hX hE => ?_)
  refine zk_iload_n hX dX11_text_0 rfl ?_
  refine zk_S1i hX dX11_text_1 kcX11_isText mlX11_153 smX11_isText rfl (s_X11_isText _) (Nat.le_of_ble_eq_true rfl) rfl ?_
  refine zk_if_eqB (tgt := 13) hX dX11_text_4 (by decide) (fun c4 => ?_) (fun c4 => ?_)
  · refine zk_iconst (v := -1) hX dX11_text_13 (by decide) ?_
    refine zk_iret hX hE rfl ⟨rfl, rfl⟩ dX11_text_14 ⟨_, rfl, ?_⟩
    exact ⟨rfl, rfl⟩
  · refine zk_iload_n hX dX11_text_7 rfl ?_
    refine zk_bipush (v := 80) hX dX11_text_8 (by decide) ?_
    refine zk_icmp_le (tgt := 15) hX dX11_text_10 (by decide) (fun c10 => ?_) (fun c10 => ?_)
    · exact absurd ⟨c4, c10⟩ h
    refine zk_iconst (v := -1) hX dX11_text_13 (by decide) ?_
    refine zk_iret hX hE rfl ⟨rfl, rfl⟩ dX11_text_14 ⟨_, rfl, ?_⟩
    exact ⟨rfl, rfl⟩
def c_text (w : zW) (r : Nat) (n : Int32) : Int32 × zW := if n < 0 then (-3, zfind w 5) else (n, zfill (zsi w (17 + 2 * r) 0 n) (18 + 2 * r) n.toNatClampNeg 32)
theorem s_X11_text {G : zG} {w : zW} (hw : zWf w) {r : Nat} (hr : r < 4) {n : Int32} (hn : n ≤ 80) : zFi G mX11_text [.ref 0, .int (nI r), .int n] w (c_text w r n) := by
  refine zC_of (lo := [_, _, _]) kcX11_text (Nat.le_of_ble_eq_true rfl) rfl (fun X hX hE => ?_)
  refine zk_iload_n hX dX11_text_0 rfl ?_
  refine zk_S1i hX dX11_text_1 kcX11_isText mlX11_153 smX11_isText rfl (s_X11_isText _) (Nat.le_of_ble_eq_true rfl) rfl ?_
  refine zk_if_eqB (tgt := 13) hX dX11_text_4 (by decide) (fun c4 => ?_) (fun c4 => ?_)
  · exact absurd c4 (not_not_intro (zrlt hr))
  refine zk_iload_n hX dX11_text_7 rfl ?_
  refine zk_bipush (v := 80) hX dX11_text_8 (by decide) ?_
  refine zk_icmp_le (tgt := 15) hX dX11_text_10 (by decide) (fun c10 => ?_) (fun c10 => ?_)
  rotate_left
  · exact absurd hn c10
  refine zk_iload_n hX dX11_text_15 rfl ?_
  refine zk_if_ge (tgt := 28) hX dX11_text_16 (by decide) (fun c16 => ?_) (fun c16 => ?_)
  · obtain ⟨m, hm, rfl⟩ := znatle (n := 80) (by decide) (by grind) hn
    refine zk_aload_n hX dX11_text_28 rfl ?_
    refine zk_getR hX dX11_text_29 flX11_25 k_0 z_0 (hw _ _ (by decide) |>.trans r_0_2) ?_
    refine zk_iload_n hX dX11_text_32 rfl ?_
    refine zk_texts hX hw dX11_text_33 rfl (by first | assumption | omega) ?_
    refine zk_iload_n hX dX11_text_34 rfl ?_
    refine zk_bipush (v := 32) hX dX11_text_35 (by decide) ?_
    refine zk_V2v hX dX11_text_37 kcX8_renew mlX11_115 viX8_renew rfl (zRwT0 (by first | assumption | omega)) (zRw_t _ (by first | assumption | omega)).2.1 (s_X8_renew (zRwT hr) hw hm 32) (Nat.le_of_ble_eq_true rfl) rfl ?_
    refine zk_iload_n hX dX11_text_40 rfl ?_
    refine zk_iret hX hE rfl ⟨rfl, rfl⟩ dX11_text_41 ⟨_, rfl, ?_⟩
    unfold c_text; first | (rw [if_pos (by grind)]; exact ⟨rfl, rfl⟩) | (rw [if_neg (by grind), nI_clamp (by omega), show 18 + 2 * r = 17 + 2 * r + 1 by omega]; exact ⟨rfl, rfl⟩)
  · refine zk_aload_n hX dX11_text_19 rfl ?_
    refine zk_getR hX dX11_text_20 flX11_12 k_0 z_0 (hw _ _ (by decide) |>.trans r_0_0) ?_
    refine zk_iconst (v := 5) hX dX11_text_23 (by decide) ?_
    refine zk_V1i hX dX11_text_24 kcX9_find mlX11_111 viX9_find rfl k_1 z_1 (s_X9_find hw _ (by decide)) (Nat.le_of_ble_eq_true rfl) rfl ?_
    refine zk_iret hX hE rfl ⟨rfl, rfl⟩ dX11_text_27 ⟨_, rfl, ?_⟩
    unfold c_text; first | (rw [if_pos (by grind)]; exact ⟨rfl, rfl⟩) | (rw [if_neg (by grind), nI_clamp (by omega), show 18 + 2 * r = 17 + 2 * r + 1 by omega]; exact ⟨rfl, rfl⟩)
theorem s_X11_put_bad {G : zG} {w : zW} (r i v : Int32) (h : ¬ (0 ≤ r ∧ r < 4)) : zEi G mX11_put [.ref 0, .int r, .int i, .int v] w (-1) w := by
  refine zC_of (lo := [_, _, _, _, _, _]) kcX11_put (Nat.le_of_ble_eq_true rfl) rfl (fun X hX hE => ?_)
  refine zk_iload_n hX dX11_put_0 rfl ?_
  refine zk_S1i hX dX11_put_1 kcX11_isText mlX11_153 smX11_isText rfl (s_X11_isText _) (Nat.le_of_ble_eq_true rfl) rfl ?_
  refine zk_if_neB (tgt := 9) hX dX11_put_4 (by decide) (fun c4 => ?_) (fun c4 => ?_)
  · exact absurd c4 h
  refine zk_iconst (v := -1) hX dX11_put_7 (by decide) ?_
  refine zk_iret hX hE rfl ⟨rfl, rfl⟩ dX11_put_8 ⟨_, rfl, ?_⟩
  exact ⟨rfl, rfl⟩
def c_put (w : zW) (r : Nat) (i v : Int32) : Int32 × zW := if ¬ 0 ≤ w.1 (17 + 2 * r) 0 then (-3, zfind w 1) else if ¬ (0 ≤ i ∧ i < w.1 (17 + 2 * r) 0) then (-3, zfind w 2) else (zRget w (17 + 2 * r) i + 1000, zsi w (18 + 2 * r) i.toNatClampNeg v.toInt8.toInt32)
theorem s_X11_put {G : zG} {w : zW} (hw : zWf w) {r : Nat} (hr : r < 4) (hS : zSz (w.1 (17 + 2 * r) 0) 80) (i v : Int32) : zFi G mX11_put [.ref 0, .int (nI r), .int i, .int v] w (c_put w r i v) := by
  refine zC_of (lo := [_, _, _, _, _, _]) kcX11_put (Nat.le_of_ble_eq_true rfl) rfl (fun X hX hE => ?_)
  refine zk_iload_n hX dX11_put_0 rfl ?_
  refine zk_S1i hX dX11_put_1 kcX11_isText mlX11_153 smX11_isText rfl (s_X11_isText _) (Nat.le_of_ble_eq_true rfl) rfl ?_
  refine zk_if_neB (tgt := 9) hX dX11_put_4 (by decide) (fun c4 => ?_) (fun c4 => ?_)
  rotate_left
  · exact absurd (zrlt hr) c4
  refine zk_aload_n hX dX11_put_9 rfl ?_
  refine zk_getR hX dX11_put_10 flX11_25 k_0 z_0 (hw _ _ (by decide) |>.trans r_0_2) ?_
  refine zk_iload_n hX dX11_put_13 rfl ?_
  refine zk_texts hX hw dX11_put_14 rfl (by first | assumption | omega) ?_
  refine zk_astore (lo' := [_, _, _, _, _, _]) hX dX11_put_15 (Nat.le_of_ble_eq_true rfl) rfl rfl ?_
  refine zk_aload hX dX11_put_17 rfl ?_
  refine zk_V0i hX dX11_put_19 kcX8_isThere mlX11_119 viX8_isThere rfl (zRwT0 (by first | assumption | omega)) (zRw_t _ (by first | assumption | omega)).2.1 (s_X8_isThere (zRwT hr)) (Nat.le_of_ble_eq_true rfl) rfl ?_
  refine zk_if_neB (tgt := 34) hX dX11_put_22 (by decide) (fun c22 => ?_) (fun c22 => ?_)
  · refine zk_aload hX dX11_put_34 rfl ?_
    refine zk_iload_n hX dX11_put_36 rfl ?_
    refine zk_V1i hX dX11_put_37 kcX8_holds mlX11_123 viX8_holds rfl (zRwT0 (by first | assumption | omega)) (zRw_t _ (by first | assumption | omega)).2.1 (s_X8_holds (zRwT hr) _) (Nat.le_of_ble_eq_true rfl) rfl ?_
    refine zk_if_neB (tgt := 52) hX dX11_put_40 (by decide) (fun c40 => ?_) (fun c40 => ?_)
    · obtain ⟨j, m, hj, hm, rfl, e⟩ := zSz_in hS (by decide) c40.1 c40.2
      refine zk_aload hX dX11_put_52 rfl ?_
      refine zk_iload_n hX dX11_put_54 rfl ?_
      refine zk_V1i hX dX11_put_55 kcX8_get mlX11_126 viX8_get rfl (zRwT0 (by first | assumption | omega)) (zRw_t _ (by first | assumption | omega)).2.1 (s_X8_get (zRwT hr) hw hS _) (Nat.le_of_ble_eq_true rfl) rfl ?_
      refine zk_istore (lo' := [_, _, _, _, _, _]) hX dX11_put_58 (Nat.le_of_ble_eq_true rfl) rfl rfl ?_
      refine zk_aload hX dX11_put_60 rfl ?_
      refine zk_iload_n hX dX11_put_62 rfl ?_
      refine zk_iload_n hX dX11_put_63 rfl ?_
      refine zk_i2b hX dX11_put_64 ?_
      refine zk_V2v hX dX11_put_65 kcX8_set mlX11_129 viX8_set rfl (zRwT0 (by first | assumption | omega)) (zRw_t _ (by first | assumption | omega)).2.1 (s_X8_set (zRwT hr) hw hj hm e _) (Nat.le_of_ble_eq_true rfl) rfl ?_
      refine zk_iload hX dX11_put_68 rfl ?_
      refine zk_sipush (v := 1000) hX dX11_put_70 (by decide) ?_
      refine zk_iadd hX dX11_put_73 ?_
      refine zk_iret hX hE rfl ⟨rfl, rfl⟩ dX11_put_74 ⟨_, rfl, ?_⟩
      unfold c_put; rw [if_neg (by grind), if_neg (by grind), nI_clamp (by omega), show 18 + 2 * r = 17 + 2 * r + 1 by omega]; exact ⟨rfl, rfl⟩
    · refine zk_aload_n hX dX11_put_43 rfl ?_
      refine zk_getR hX dX11_put_44 flX11_12 k_0 z_0 (hw _ _ (by decide) |>.trans r_0_0) ?_
      refine zk_iconst (v := 2) hX dX11_put_47 (by decide) ?_
      refine zk_V1i hX dX11_put_48 kcX9_find mlX11_111 viX9_find rfl k_1 z_1 (s_X9_find hw _ (by decide)) (Nat.le_of_ble_eq_true rfl) rfl ?_
      refine zk_iret hX hE rfl ⟨rfl, rfl⟩ dX11_put_51 ⟨_, rfl, ?_⟩
      unfold c_put; rw [if_neg (by grind), if_pos (by grind)]; exact ⟨rfl, rfl⟩
  · refine zk_aload_n hX dX11_put_25 rfl ?_
    refine zk_getR hX dX11_put_26 flX11_12 k_0 z_0 (hw _ _ (by decide) |>.trans r_0_0) ?_
    refine zk_iconst (v := 1) hX dX11_put_29 (by decide) ?_
    refine zk_V1i hX dX11_put_30 kcX9_find mlX11_111 viX9_find rfl k_1 z_1 (s_X9_find hw _ (by decide)) (Nat.le_of_ble_eq_true rfl) rfl ?_
    refine zk_iret hX hE rfl ⟨rfl, rfl⟩ dX11_put_33 ⟨_, rfl, ?_⟩
    unfold c_put; rw [if_pos (by grind)]; exact ⟨rfl, rfl⟩
def c_copyOK (w : zW) (r t : Nat) (i j n : Int32) : Prop := (0 ≤ i ∧ i ≤ w.1 (4 + 2 * r) 0 ∧ n ≤ w.1 (4 + 2 * r) 0 - i) ∧ (0 ≤ j ∧ j ≤ w.1 (4 + 2 * t) 0 ∧ n ≤ w.1 (4 + 2 * t) 0 - j)
theorem s_X11_copy_bad {G : zG} {w : zW} (r i t j n : Int32) (h : ¬ ((0 ≤ r ∧ r < 6) ∧ (0 ≤ t ∧ t < 6))) : zEi G mX11_copy [.ref 0, .int r, .int i, .int t, .int j, .int n] w (-1) w := by
  refine zC_of (lo := [_, _, _, _, _, _]) kcX11_copy (Nat.le_of_ble_eq_true rfl) rfl (fun X hX hE => ?_)
  refine zk_iload_n hX dX11_copy_0 rfl ?_
  refine zk_S1i hX dX11_copy_1 kcX11_isRow mlX11_107 smX11_isRow rfl (s_X11_isRow _) (Nat.le_of_ble_eq_true rfl) rfl ?_
  refine zk_if_eqB (tgt := 14) hX dX11_copy_4 (by decide) (fun c4 => ?_) (fun c4 => ?_)
  · refine zk_iconst (v := -1) hX dX11_copy_14 (by decide) ?_
    refine zk_iret hX hE rfl ⟨rfl, rfl⟩ dX11_copy_15 ⟨_, rfl, ?_⟩
    exact ⟨rfl, rfl⟩
  · refine zk_iload_n hX dX11_copy_7 rfl ?_
    refine zk_S1i hX dX11_copy_8 kcX11_isRow mlX11_107 smX11_isRow rfl (s_X11_isRow _) (Nat.le_of_ble_eq_true rfl) rfl ?_
    refine zk_if_neB (tgt := 16) hX dX11_copy_11 (by decide) (fun c11 => ?_) (fun c11 => ?_)
    · exact absurd c11 (fun c => h ⟨c4, c⟩)
    refine zk_iconst (v := -1) hX dX11_copy_14 (by decide) ?_
    refine zk_iret hX hE rfl ⟨rfl, rfl⟩ dX11_copy_15 ⟨_, rfl, ?_⟩
    exact ⟨rfl, rfl⟩
theorem s_X11_copy_n {G : zG} {w : zW} (hw : zWf w) {r t : Nat} (hr : r < 6) (ht : t < 6) (i j n : Int32) (hn : n < 0) : zEi G mX11_copy [.ref 0, .int (nI r), .int i, .int (nI t), .int j, .int n] w (-3) (zfind w 5) := by
  refine zC_of (lo := [_, _, _, _, _, _]) kcX11_copy (Nat.le_of_ble_eq_true rfl) rfl (fun X hX hE => ?_)
  refine zk_iload_n hX dX11_copy_0 rfl ?_
  refine zk_S1i hX dX11_copy_1 kcX11_isRow mlX11_107 smX11_isRow rfl (s_X11_isRow _) (Nat.le_of_ble_eq_true rfl) rfl ?_
  refine zk_if_eqB (tgt := 14) hX dX11_copy_4 (by decide) (fun c4 => ?_) (fun c4 => ?_)
  · exact absurd c4 (not_not_intro (zrlt hr))
  refine zk_iload_n hX dX11_copy_7 rfl ?_
  refine zk_S1i hX dX11_copy_8 kcX11_isRow mlX11_107 smX11_isRow rfl (s_X11_isRow _) (Nat.le_of_ble_eq_true rfl) rfl ?_
  refine zk_if_neB (tgt := 16) hX dX11_copy_11 (by decide) (fun c11 => ?_) (fun c11 => ?_)
  rotate_left
  · exact absurd (zrlt ht) c11
  refine zk_iload hX dX11_copy_16 rfl ?_
  refine zk_if_ge (tgt := 30) hX dX11_copy_18 (by decide) (fun c18 => ?_) (fun c18 => ?_)
  · exact absurd c18 (Int32.not_le.mpr hn)
  refine zk_aload_n hX dX11_copy_21 rfl ?_
  refine zk_getR hX dX11_copy_22 flX11_12 k_0 z_0 (hw _ _ (by decide) |>.trans r_0_0) ?_
  refine zk_iconst (v := 5) hX dX11_copy_25 (by decide) ?_
  refine zk_V1i hX dX11_copy_26 kcX9_find mlX11_111 viX9_find rfl k_1 z_1 (s_X9_find hw _ (by decide)) (Nat.le_of_ble_eq_true rfl) rfl ?_
  refine zk_iret hX hE rfl ⟨rfl, rfl⟩ dX11_copy_29 ⟨_, rfl, ?_⟩
  exact ⟨rfl, rfl⟩
theorem s_X11_copy_m {G : zG} {w : zW} (hw : zWf w) {r t : Nat} (hr : r < 6) (ht : t < 6) (i j n : Int32) (hn : ¬ n < 0) (hm : ¬ (0 ≤ w.1 (4 + 2 * r) 0 ∧ 0 ≤ w.1 (4 + 2 * t) 0)) : zEi G mX11_copy [.ref 0, .int (nI r), .int i, .int (nI t), .int j, .int n] w (-3) (zfind w 1) := by
  refine zC_of (lo := [_, _, _, _, _, _]) kcX11_copy (Nat.le_of_ble_eq_true rfl) rfl (fun X hX hE => ?_)
  refine zk_iload_n hX dX11_copy_0 rfl ?_
  refine zk_S1i hX dX11_copy_1 kcX11_isRow mlX11_107 smX11_isRow rfl (s_X11_isRow _) (Nat.le_of_ble_eq_true rfl) rfl ?_
  refine zk_if_eqB (tgt := 14) hX dX11_copy_4 (by decide) (fun c4 => ?_) (fun c4 => ?_)
  · exact absurd c4 (not_not_intro (zrlt hr))
  refine zk_iload_n hX dX11_copy_7 rfl ?_
  refine zk_S1i hX dX11_copy_8 kcX11_isRow mlX11_107 smX11_isRow rfl (s_X11_isRow _) (Nat.le_of_ble_eq_true rfl) rfl ?_
  refine zk_if_neB (tgt := 16) hX dX11_copy_11 (by decide) (fun c11 => ?_) (fun c11 => ?_)
  rotate_left
  · exact absurd (zrlt ht) c11
  refine zk_iload hX dX11_copy_16 rfl ?_
  refine zk_if_ge (tgt := 30) hX dX11_copy_18 (by decide) (fun c18 => ?_) (fun c18 => ?_)
  rotate_left
  · exact absurd (Int32.not_lt.mp hn) c18
  refine zk_aload_n hX dX11_copy_30 rfl ?_
  refine zk_getR hX dX11_copy_31 flX11_18 k_0 z_0 (hw _ _ (by decide) |>.trans r_0_1) ?_
  refine zk_iload_n hX dX11_copy_34 rfl ?_
  refine zk_rows hX hw dX11_copy_35 rfl (by first | assumption | omega) ?_
  refine zk_V0i hX dX11_copy_36 kcX8_isThere mlX11_119 viX8_isThere rfl (zRwR0 (by first | assumption | omega)) (zRw_r _ (by first | assumption | omega)).2.1 (s_X8_isThere (zRwR hr)) (Nat.le_of_ble_eq_true rfl) rfl ?_
  refine zk_if_eqB (tgt := 54) hX dX11_copy_39 (by decide) (fun c39 => ?_) (fun c39 => ?_)
  · refine zk_aload_n hX dX11_copy_54 rfl ?_
    refine zk_getR hX dX11_copy_55 flX11_12 k_0 z_0 (hw _ _ (by decide) |>.trans r_0_0) ?_
    refine zk_iconst (v := 1) hX dX11_copy_58 (by decide) ?_
    refine zk_V1i hX dX11_copy_59 kcX9_find mlX11_111 viX9_find rfl k_1 z_1 (s_X9_find hw _ (by decide)) (Nat.le_of_ble_eq_true rfl) rfl ?_
    refine zk_iret hX hE rfl ⟨rfl, rfl⟩ dX11_copy_62 ⟨_, rfl, ?_⟩
    exact ⟨rfl, rfl⟩
  · refine zk_aload_n hX dX11_copy_42 rfl ?_
    refine zk_getR hX dX11_copy_43 flX11_18 k_0 z_0 (hw _ _ (by decide) |>.trans r_0_1) ?_
    refine zk_iload_n hX dX11_copy_46 rfl ?_
    refine zk_rows hX hw dX11_copy_47 rfl (by first | assumption | omega) ?_
    refine zk_V0i hX dX11_copy_48 kcX8_isThere mlX11_119 viX8_isThere rfl (zRwR0 (by first | assumption | omega)) (zRw_r _ (by first | assumption | omega)).2.1 (s_X8_isThere (zRwR ht)) (Nat.le_of_ble_eq_true rfl) rfl ?_
    refine zk_if_neB (tgt := 63) hX dX11_copy_51 (by decide) (fun c51 => ?_) (fun c51 => ?_)
    · exact absurd c51 (fun c => hm ⟨c39, c⟩)
    refine zk_aload_n hX dX11_copy_54 rfl ?_
    refine zk_getR hX dX11_copy_55 flX11_12 k_0 z_0 (hw _ _ (by decide) |>.trans r_0_0) ?_
    refine zk_iconst (v := 1) hX dX11_copy_58 (by decide) ?_
    refine zk_V1i hX dX11_copy_59 kcX9_find mlX11_111 viX9_find rfl k_1 z_1 (s_X9_find hw _ (by decide)) (Nat.le_of_ble_eq_true rfl) rfl ?_
    refine zk_iret hX hE rfl ⟨rfl, rfl⟩ dX11_copy_62 ⟨_, rfl, ?_⟩
    exact ⟨rfl, rfl⟩
theorem s_X11_copy_b {G : zG} {w : zW} (hw : zWf w) {r t : Nat} (hr : r < 6) (ht : t < 6) (i j n : Int32) (hn : ¬ n < 0) (h1 : 0 ≤ w.1 (4 + 2 * r) 0) (h2 : 0 ≤ w.1 (4 + 2 * t) 0) (hm : ¬ c_copyOK w r t i j n) : zEi G mX11_copy [.ref 0, .int (nI r), .int i, .int (nI t), .int j, .int n] w (-3) (zfind w 2) := by
  refine zC_of (lo := [_, _, _, _, _, _]) kcX11_copy (Nat.le_of_ble_eq_true rfl) rfl (fun X hX hE => ?_)
  refine zk_iload_n hX dX11_copy_0 rfl ?_
  refine zk_S1i hX dX11_copy_1 kcX11_isRow mlX11_107 smX11_isRow rfl (s_X11_isRow _) (Nat.le_of_ble_eq_true rfl) rfl ?_
  refine zk_if_eqB (tgt := 14) hX dX11_copy_4 (by decide) (fun c4 => ?_) (fun c4 => ?_)
  · exact absurd c4 (not_not_intro (zrlt hr))
  refine zk_iload_n hX dX11_copy_7 rfl ?_
  refine zk_S1i hX dX11_copy_8 kcX11_isRow mlX11_107 smX11_isRow rfl (s_X11_isRow _) (Nat.le_of_ble_eq_true rfl) rfl ?_
  refine zk_if_neB (tgt := 16) hX dX11_copy_11 (by decide) (fun c11 => ?_) (fun c11 => ?_)
  rotate_left
  · exact absurd (zrlt ht) c11
  refine zk_iload hX dX11_copy_16 rfl ?_
  refine zk_if_ge (tgt := 30) hX dX11_copy_18 (by decide) (fun c18 => ?_) (fun c18 => ?_)
  rotate_left
  · exact absurd (Int32.not_lt.mp hn) c18
  refine zk_aload_n hX dX11_copy_30 rfl ?_
  refine zk_getR hX dX11_copy_31 flX11_18 k_0 z_0 (hw _ _ (by decide) |>.trans r_0_1) ?_
  refine zk_iload_n hX dX11_copy_34 rfl ?_
  refine zk_rows hX hw dX11_copy_35 rfl (by first | assumption | omega) ?_
  refine zk_V0i hX dX11_copy_36 kcX8_isThere mlX11_119 viX8_isThere rfl (zRwR0 (by first | assumption | omega)) (zRw_r _ (by first | assumption | omega)).2.1 (s_X8_isThere (zRwR hr)) (Nat.le_of_ble_eq_true rfl) rfl ?_
  refine zk_if_eqB (tgt := 54) hX dX11_copy_39 (by decide) (fun c39 => ?_) (fun c39 => ?_)
  · exact absurd c39 (not_not_intro h1)
  refine zk_aload_n hX dX11_copy_42 rfl ?_
  refine zk_getR hX dX11_copy_43 flX11_18 k_0 z_0 (hw _ _ (by decide) |>.trans r_0_1) ?_
  refine zk_iload_n hX dX11_copy_46 rfl ?_
  refine zk_rows hX hw dX11_copy_47 rfl (by first | assumption | omega) ?_
  refine zk_V0i hX dX11_copy_48 kcX8_isThere mlX11_119 viX8_isThere rfl (zRwR0 (by first | assumption | omega)) (zRw_r _ (by first | assumption | omega)).2.1 (s_X8_isThere (zRwR ht)) (Nat.le_of_ble_eq_true rfl) rfl ?_
  refine zk_if_neB (tgt := 63) hX dX11_copy_51 (by decide) (fun c51 => ?_) (fun c51 => ?_)
  rotate_left
  · exact absurd h2 c51
  refine zk_aload_n hX dX11_copy_63 rfl ?_
  refine zk_getR hX dX11_copy_64 flX11_18 k_0 z_0 (hw _ _ (by decide) |>.trans r_0_1) ?_
  refine zk_iload_n hX dX11_copy_67 rfl ?_
  refine zk_rows hX hw dX11_copy_68 rfl (by first | assumption | omega) ?_
  refine zk_iload_n hX dX11_copy_69 rfl ?_
  refine zk_iload hX dX11_copy_70 rfl ?_
  refine zk_V2i hX dX11_copy_72 kcX8_holdsFrom mlX11_138 viX8_holdsFrom rfl (zRwR0 (by first | assumption | omega)) (zRw_r _ (by first | assumption | omega)).2.1 (s_X8_holdsFrom (zRwR hr) _ _) (Nat.le_of_ble_eq_true rfl) rfl ?_
  refine zk_if_eqB (tgt := 94) hX dX11_copy_75 (by decide) (fun c75 => ?_) (fun c75 => ?_)
  · refine zk_aload_n hX dX11_copy_94 rfl ?_
    refine zk_getR hX dX11_copy_95 flX11_12 k_0 z_0 (hw _ _ (by decide) |>.trans r_0_0) ?_
    refine zk_iconst (v := 2) hX dX11_copy_98 (by decide) ?_
    refine zk_V1i hX dX11_copy_99 kcX9_find mlX11_111 viX9_find rfl k_1 z_1 (s_X9_find hw _ (by decide)) (Nat.le_of_ble_eq_true rfl) rfl ?_
    refine zk_iret hX hE rfl ⟨rfl, rfl⟩ dX11_copy_102 ⟨_, rfl, ?_⟩
    exact ⟨rfl, rfl⟩
  · refine zk_aload_n hX dX11_copy_78 rfl ?_
    refine zk_getR hX dX11_copy_79 flX11_18 k_0 z_0 (hw _ _ (by decide) |>.trans r_0_1) ?_
    refine zk_iload_n hX dX11_copy_82 rfl ?_
    refine zk_rows hX hw dX11_copy_83 rfl (by first | assumption | omega) ?_
    refine zk_iload hX dX11_copy_84 rfl ?_
    refine zk_iload hX dX11_copy_86 rfl ?_
    refine zk_V2i hX dX11_copy_88 kcX8_holdsFrom mlX11_138 viX8_holdsFrom rfl (zRwR0 (by first | assumption | omega)) (zRw_r _ (by first | assumption | omega)).2.1 (s_X8_holdsFrom (zRwR ht) _ _) (Nat.le_of_ble_eq_true rfl) rfl ?_
    refine zk_if_neB (tgt := 103) hX dX11_copy_91 (by decide) (fun c91 => ?_) (fun c91 => ?_)
    · exact absurd c91 (fun c => hm ⟨c75, c⟩)
    refine zk_aload_n hX dX11_copy_94 rfl ?_
    refine zk_getR hX dX11_copy_95 flX11_12 k_0 z_0 (hw _ _ (by decide) |>.trans r_0_0) ?_
    refine zk_iconst (v := 2) hX dX11_copy_98 (by decide) ?_
    refine zk_V1i hX dX11_copy_99 kcX9_find mlX11_111 viX9_find rfl k_1 z_1 (s_X9_find hw _ (by decide)) (Nat.le_of_ble_eq_true rfl) rfl ?_
    refine zk_iret hX hE rfl ⟨rfl, rfl⟩ dX11_copy_102 ⟨_, rfl, ?_⟩
    exact ⟨rfl, rfl⟩
theorem s_X11_copy_ok {G : zG} {w : zW} (hw : zWf w) {r t i j n m m' : Nat} (hr : r < 6) (ht : t < 6) (hm : m ≤ 40) (hm' : m' ≤ 40) (hS : w.1 (4 + 2 * r) 0 = nI m) (hS' : w.1 (4 + 2 * t) 0 = nI m') (h1 : i + n ≤ m) (h2 : j + n ≤ m') : zEi G mX11_copy [.ref 0, .int (nI r), .int (nI i), .int (nI t), .int (nI j), .int (nI n)] w 1 (zcopy w (4 + 2 * r + 1) (4 + 2 * t + 1) i j n) := by
  have g1 : 0 ≤ w.1 (4 + 2 * r) 0 := by rw [hS]; exact nI_pos' (by omega)
  have g2 : 0 ≤ w.1 (4 + 2 * t) 0 := by rw [hS']; exact nI_pos' (by omega)
  refine zC_of (lo := [_, _, _, _, _, _]) kcX11_copy (Nat.le_of_ble_eq_true rfl) rfl (fun X hX hE => ?_)
  refine zk_iload_n hX dX11_copy_0 rfl ?_
  refine zk_S1i hX dX11_copy_1 kcX11_isRow mlX11_107 smX11_isRow rfl (s_X11_isRow _) (Nat.le_of_ble_eq_true rfl) rfl ?_
  refine zk_if_eqB (tgt := 14) hX dX11_copy_4 (by decide) (fun c4 => ?_) (fun c4 => ?_)
  · exact absurd c4 (not_not_intro (zrlt hr))
  refine zk_iload_n hX dX11_copy_7 rfl ?_
  refine zk_S1i hX dX11_copy_8 kcX11_isRow mlX11_107 smX11_isRow rfl (s_X11_isRow _) (Nat.le_of_ble_eq_true rfl) rfl ?_
  refine zk_if_neB (tgt := 16) hX dX11_copy_11 (by decide) (fun c11 => ?_) (fun c11 => ?_)
  rotate_left
  · exact absurd (zrlt ht) c11
  refine zk_iload hX dX11_copy_16 rfl ?_
  refine zk_if_ge (tgt := 30) hX dX11_copy_18 (by decide) (fun c18 => ?_) (fun c18 => ?_)
  rotate_left
  · exact absurd (nI_pos' (by omega)) c18
  refine zk_aload_n hX dX11_copy_30 rfl ?_
  refine zk_getR hX dX11_copy_31 flX11_18 k_0 z_0 (hw _ _ (by decide) |>.trans r_0_1) ?_
  refine zk_iload_n hX dX11_copy_34 rfl ?_
  refine zk_rows hX hw dX11_copy_35 rfl (by first | assumption | omega) ?_
  refine zk_V0i hX dX11_copy_36 kcX8_isThere mlX11_119 viX8_isThere rfl (zRwR0 (by first | assumption | omega)) (zRw_r _ (by first | assumption | omega)).2.1 (s_X8_isThere (zRwR hr)) (Nat.le_of_ble_eq_true rfl) rfl ?_
  refine zk_if_eqB (tgt := 54) hX dX11_copy_39 (by decide) (fun c39 => ?_) (fun c39 => ?_)
  · exact absurd c39 (not_not_intro g1)
  refine zk_aload_n hX dX11_copy_42 rfl ?_
  refine zk_getR hX dX11_copy_43 flX11_18 k_0 z_0 (hw _ _ (by decide) |>.trans r_0_1) ?_
  refine zk_iload_n hX dX11_copy_46 rfl ?_
  refine zk_rows hX hw dX11_copy_47 rfl (by first | assumption | omega) ?_
  refine zk_V0i hX dX11_copy_48 kcX8_isThere mlX11_119 viX8_isThere rfl (zRwR0 (by first | assumption | omega)) (zRw_r _ (by first | assumption | omega)).2.1 (s_X8_isThere (zRwR ht)) (Nat.le_of_ble_eq_true rfl) rfl ?_
  refine zk_if_neB (tgt := 63) hX dX11_copy_51 (by decide) (fun c51 => ?_) (fun c51 => ?_)
  rotate_left
  · exact absurd g2 c51
  refine zk_aload_n hX dX11_copy_63 rfl ?_
  refine zk_getR hX dX11_copy_64 flX11_18 k_0 z_0 (hw _ _ (by decide) |>.trans r_0_1) ?_
  refine zk_iload_n hX dX11_copy_67 rfl ?_
  refine zk_rows hX hw dX11_copy_68 rfl (by first | assumption | omega) ?_
  refine zk_iload_n hX dX11_copy_69 rfl ?_
  refine zk_iload hX dX11_copy_70 rfl ?_
  refine zk_V2i hX dX11_copy_72 kcX8_holdsFrom mlX11_138 viX8_holdsFrom rfl (zRwR0 (by first | assumption | omega)) (zRw_r _ (by first | assumption | omega)).2.1 (s_X8_holdsFrom (zRwR hr) _ _) (Nat.le_of_ble_eq_true rfl) rfl ?_
  refine zk_if_eqB (tgt := 94) hX dX11_copy_75 (by decide) (fun c75 => ?_) (fun c75 => ?_)
  · exact absurd c75 (not_not_intro ⟨nI_pos' (by omega), by rw [hS]; exact nI_le (by omega) (by omega), by rw [hS, nI_subE (by omega) rfl rfl]; exact nI_le (by omega) (by omega)⟩)
  refine zk_aload_n hX dX11_copy_78 rfl ?_
  refine zk_getR hX dX11_copy_79 flX11_18 k_0 z_0 (hw _ _ (by decide) |>.trans r_0_1) ?_
  refine zk_iload_n hX dX11_copy_82 rfl ?_
  refine zk_rows hX hw dX11_copy_83 rfl (by first | assumption | omega) ?_
  refine zk_iload hX dX11_copy_84 rfl ?_
  refine zk_iload hX dX11_copy_86 rfl ?_
  refine zk_V2i hX dX11_copy_88 kcX8_holdsFrom mlX11_138 viX8_holdsFrom rfl (zRwR0 (by first | assumption | omega)) (zRw_r _ (by first | assumption | omega)).2.1 (s_X8_holdsFrom (zRwR ht) _ _) (Nat.le_of_ble_eq_true rfl) rfl ?_
  refine zk_if_neB (tgt := 103) hX dX11_copy_91 (by decide) (fun c91 => ?_) (fun c91 => ?_)
  rotate_left
  · exact absurd ⟨nI_pos' (by omega), by rw [hS']; exact nI_le (by omega) (by omega), by rw [hS', nI_subE (by omega) rfl rfl]; exact nI_le (by omega) (by omega)⟩ c91
  refine zk_aload_n hX dX11_copy_103 rfl ?_
  refine zk_getR hX dX11_copy_104 flX11_18 k_0 z_0 (hw _ _ (by decide) |>.trans r_0_1) ?_
  refine zk_iload_n hX dX11_copy_107 rfl ?_
  refine zk_rows hX hw dX11_copy_108 rfl (by first | assumption | omega) ?_
  refine zk_iload hX dX11_copy_109 rfl ?_
  refine zk_aload_n hX dX11_copy_111 rfl ?_
  refine zk_getR hX dX11_copy_112 flX11_18 k_0 z_0 (hw _ _ (by decide) |>.trans r_0_1) ?_
  refine zk_iload_n hX dX11_copy_115 rfl ?_
  refine zk_rows hX hw dX11_copy_116 rfl (by first | assumption | omega) ?_
  refine zk_iload_n hX dX11_copy_117 rfl ?_
  refine zk_iload hX dX11_copy_118 rfl ?_
  refine zk_V4v hX dX11_copy_120 kcX8_take mlX11_142 viX8_take rfl (zRwR0 (by first | assumption | omega)) (zRw_r _ (by first | assumption | omega)).2.1 (s_X8_take (zRwR ht) (zRwR hr) hw hm' hS' hm hS h2 h1) (Nat.le_of_ble_eq_true rfl) rfl ?_
  refine zk_iconst (v := 1) hX dX11_copy_123 (by decide) ?_
  refine zk_iret hX hE rfl ⟨rfl, rfl⟩ dX11_copy_124 ⟨_, rfl, ?_⟩
  exact ⟨rfl, rfl⟩
