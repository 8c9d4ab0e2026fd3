/-! the model: small ones -/
theorem s_X12_in {G : zG} {w : zW} (v a b : Int32) : zEi G mX12_in [.int v, .int a, .int b] w (zb (a ≤ v ∧ v ≤ b)) w := by
  refine zC_of (lo := [_, _, _]) kcX12_in (Nat.le_of_ble_eq_true rfl) rfl (fun X hX hE => ?_)
  refine zk_iload_n hX dX12_in_0 rfl ?_
  refine zk_iload_n hX dX12_in_1 rfl ?_
  refine zk_icmp_lt (tgt := 14) hX dX12_in_2 (by decide) (fun c2 => ?_) (fun c2 => ?_)
  · refine zk_iconst (v := 0) hX dX12_in_14 (by decide) ?_
    refine zk_zret hX hE rfl ⟨rfl, rfl⟩ dX12_in_15 rfl ⟨_, rfl, ?_⟩
    exact ⟨by first | exact zb_t' (by grind) | exact zb_f' (by grind), rfl⟩
  · refine zk_iload_n hX dX12_in_5 rfl ?_
    refine zk_iload_n hX dX12_in_6 rfl ?_
    refine zk_icmp_gt (tgt := 14) hX dX12_in_7 (by decide) (fun c7 => ?_) (fun c7 => ?_)
    · refine zk_iconst (v := 0) hX dX12_in_14 (by decide) ?_
      refine zk_zret hX hE rfl ⟨rfl, rfl⟩ dX12_in_15 rfl ⟨_, rfl, ?_⟩
      exact ⟨by first | exact zb_t' (by grind) | exact zb_f' (by grind), rfl⟩
    · refine zk_iconst (v := 1) hX dX12_in_10 (by decide) ?_
      refine zk_goto (tgt := 15) hX dX12_in_11 (by decide) ?_
      refine zk_zret hX hE rfl ⟨rfl, rfl⟩ dX12_in_15 rfl ⟨_, rfl, ?_⟩
      exact ⟨by first | exact zb_t' (by grind) | exact zb_f' (by grind), rfl⟩
theorem s_X12_isRow {G : zG} {w : zW} (v : Int32) : zEi G mX12_isRow [.int v] w (zb (0 ≤ v ∧ v ≤ 5)) w := by
  refine zC_of (lo := [_]) kcX12_isRow (Nat.le_of_ble_eq_true rfl) rfl (fun X hX hE => ?_)
  refine zk_iload_n hX dX12_isRow_0 rfl ?_
  refine zk_iconst (v := 0) hX dX12_isRow_1 (by decide) ?_
  refine zk_iconst (v := 5) hX dX12_isRow_2 (by decide) ?_
  refine zk_S3i hX dX12_isRow_3 kcX12_in mlX12_131 smX12_in rfl (s_X12_in _ _ _) (Nat.le_of_ble_eq_true rfl) rfl ?_
  refine zk_zret hX hE rfl ⟨rfl, rfl⟩ dX12_isRow_6 (by simp [narrow, zb_and1]) ⟨_, rfl, ?_⟩
  exact ⟨rfl, rfl⟩
theorem s_X12_isText {G : zG} {w : zW} (v : Int32) : zEi G mX12_isText [.int v] w (zb (0 ≤ v ∧ v ≤ 3)) w := by
  refine zC_of (lo := [_]) kcX12_isText (Nat.le_of_ble_eq_true rfl) rfl (fun X hX hE => ?_)
  refine zk_iload_n hX dX12_isText_0 rfl ?_
  refine zk_iconst (v := 0) hX dX12_isText_1 (by decide) ?_
  refine zk_iconst (v := 3) hX dX12_isText_2 (by decide) ?_
  refine zk_S3i hX dX12_isText_3 kcX12_in mlX12_131 smX12_in rfl (s_X12_in _ _ _) (Nat.le_of_ble_eq_true rfl) rfl ?_
  refine zk_zret hX hE rfl ⟨rfl, rfl⟩ dX12_isText_6 (by simp [narrow, zb_and1]) ⟨_, rfl, ?_⟩
  exact ⟨rfl, rfl⟩
theorem s_X12_isBeast {G : zG} {w : zW} (v : Int32) : zEi G mX12_isBeast [.int v] w (zb (0 ≤ v ∧ v ≤ 6 - 1)) w := by
  refine zC_of (lo := [_]) kcX12_isBeast (Nat.le_of_ble_eq_true rfl) rfl (fun X hX hE => ?_)
  refine zk_iload_n hX dX12_isBeast_0 rfl ?_
  refine zk_iconst (v := 0) hX dX12_isBeast_1 (by decide) ?_
  refine zk_iconst (v := 5) hX dX12_isBeast_2 (by decide) ?_
  refine zk_S3i hX dX12_isBeast_3 kcX12_in mlX12_131 smX12_in rfl (s_X12_in _ _ _) (Nat.le_of_ble_eq_true rfl) rfl ?_
  refine zk_zret hX hE rfl ⟨rfl, rfl⟩ dX12_isBeast_6 (by simp [narrow, zb_and1]) ⟨_, rfl, ?_⟩
  exact ⟨rfl, rfl⟩
theorem s_X12_isBeast' {G : zG} {w : zW} (v : Int32) : zEi G mX12_isBeast [.int v] w (zb (0 ≤ v ∧ v ≤ 5)) w := s_X12_isBeast v
def mfind (w : zW) (k : Nat) : zW := zsi (zsi w 166 0 (nI k)) 167 k (w.1 167 k + 1)
theorem s_X12_meets {G : zG} {w : zW} (hw : zWf w) (k : Nat) (hk : 1 ≤ k ∧ k ≤ 5) : zEi G mX12_meets [.ref 166, .int (nI k)] w (-3) (mfind w k) := by
  refine zC_of (lo := [_, _]) kcX12_meets (Nat.le_of_ble_eq_true rfl) rfl (fun X hX hE => ?_)
  refine zk_aload_n hX dX12_meets_0 rfl ?_
  refine zk_iload_n hX dX12_meets_1 rfl ?_
  refine zk_putI hX dX12_meets_2 plX12_128 (fun h => by cases h) k_166 z_166 rfl rfl ?_
  refine zk_aload_n hX dX12_meets_5 rfl ?_
  refine zk_getR hX dX12_meets_6 flX12_7 k_166 z_166 (hw _ _ (by decide) |>.trans r_166_1) ?_
  refine zk_iload_n hX dX12_meets_9 rfl ?_
  refine zk_dup2 hX dX12_meets_10 rfl rfl ?_
  refine zk_ialdE hX dX12_meets_11 rfl k_167 z_167 (by first | assumption | omega) rfl ?_
  refine zk_iconst (v := 1) hX dX12_meets_12 (by decide) ?_
  refine zk_iadd hX dX12_meets_13 ?_
  refine zk_iastE hX dX12_meets_14 rfl k_167 z_167 (by first | assumption | omega) rfl ?_
  refine zk_bipush (v := -3) hX dX12_meets_15 (by decide) ?_
  refine zk_iret hX hE rfl ⟨rfl, rfl⟩ dX12_meets_17 ⟨_, rfl, ?_⟩
  exact ⟨rfl, rfl⟩
theorem s_X12_tells {G : zG} {w : zW} (v a : Int32) : zEi G mX12_tells [.ref 166, .int v, .int a] w a (zsi w 166 2 v) := by
  refine zC_of (lo := [_, _, _]) kcX12_tells (Nat.le_of_ble_eq_true rfl) rfl (fun X hX hE => ?_)
  refine zk_aload_n hX dX12_tells_0 rfl ?_
  refine zk_iload_n hX dX12_tells_1 rfl ?_
  refine zk_putI hX dX12_tells_2 plX12_135 (fun h => by cases h) k_166 z_166 rfl rfl ?_
  refine zk_iload_n hX dX12_tells_5 rfl ?_
  refine zk_iret hX hE rfl ⟨rfl, rfl⟩ dX12_tells_6 ⟨_, rfl, ?_⟩
  exact ⟨rfl, rfl⟩
theorem s_X12_rowAt {G : zG} {w : zW} (hw : zWf w) {r i : Nat} (h : 40 * r + i < 240) : zEi G mX12_rowAt [.ref 166, .int (nI r), .int (nI i)] w (w.1 169 (40 * r + i)) w := by
  refine zC_of (lo := [_, _, _]) kcX12_rowAt (Nat.le_of_ble_eq_true rfl) rfl (fun X hX hE => ?_)
  refine zk_aload_n hX dX12_rowAt_0 rfl ?_
  refine zk_getR hX dX12_rowAt_1 flX12_16 k_166 z_166 (hw _ _ (by decide) |>.trans r_166_6) ?_
  refine zk_bipush (v := 40) hX dX12_rowAt_4 (by decide) ?_
  refine zk_iload_n hX dX12_rowAt_6 rfl ?_
  refine zk_imul hX dX12_rowAt_7 ?_
  refine zk_iload_n hX dX12_rowAt_8 rfl ?_
  refine zk_iadd hX dX12_rowAt_9 ?_
  refine zk_ialdE hX dX12_rowAt_10 (nI_addE (nI_mulE (rfl : (40 : Int32) = nI 40) rfl) rfl) k_169 z_169 (by first | assumption | omega) rfl ?_
  refine zk_iret hX hE rfl ⟨rfl, rfl⟩ dX12_rowAt_11 ⟨_, rfl, ?_⟩
  exact ⟨rfl, rfl⟩
/-! rows of the model -/
theorem s_X12_row_bad {G : zG} {w : zW} (r n : Int32) (h : ¬ ((0 ≤ r ∧ r ≤ 5) ∧ n ≤ 40)) : zEi G mX12_row [.ref 166, .int r, .int n] w (-1) w := by
  refine zC_of (lo := [_, _, _, _]) kcX12_row (Nat.le_of_ble_eq_true rfl) rfl (fun X hX hE => ?_)
  refine zk_iload_n hX dX12_row_0 rfl ?_
  refine zk_S1i hX dX12_row_1 kcX12_isRow mlX12_141 smX12_isRow rfl (s_X12_isRow _) (Nat.le_of_ble_eq_true rfl) rfl ?_
  refine zk_if_eqB (tgt := 13) hX dX12_row_4 (by decide) (fun c4 => ?_) (fun c4 => ?_)
  · refine zk_iconst (v := -1) hX dX12_row_13 (by decide) ?_
    refine zk_iret hX hE rfl ⟨rfl, rfl⟩ dX12_row_14 ⟨_, rfl, ?_⟩
    exact ⟨rfl, rfl⟩
  · refine zk_iload_n hX dX12_row_7 rfl ?_
    refine zk_bipush (v := 40) hX dX12_row_8 (by decide) ?_
    refine zk_icmp_le (tgt := 15) hX dX12_row_10 (by decide) (fun c10 => ?_) (fun c10 => ?_)
    · exact absurd c10 absurd ⟨c4, c10⟩ h
    refine zk_iconst (v := -1) hX dX12_row_13 (by decide) ?_
    refine zk_iret hX hE rfl ⟨rfl, rfl⟩ dX12_row_14 ⟨_, rfl, ?_⟩
    exact ⟨rfl, rfl⟩
def m_row (w : zW) (r : Nat) (n : Int32) : Int32 × zW := if n < 0 then (-3, mfind w 5) else (n, (fun a i => if a = 169 ∧ 40 * r ≤ i ∧ i < 40 * r + 40 then 0 else if a = 168 ∧ i = r then n else w.1 a i, w.2))
