/-! the model: small ones -/
theorem s_X12_in {G : zG} {w : zW} (v a b : Int32) : zEi G mX12_in [.int v, .int a, .int b] w (zb (a ≤ v ∧ v ≤ b)) w := by
  refine zC_of (lo := [_, _, _]) kcX12_in (Nat.le_of_ble_eq_true rfl) rfl (fun X hX hE => ?_)
  refine zk_iload_n hX dX12_in_0 rfl ?_
  refine zk_iload_n hX dX12_in_1 rfl ?_
  refine zk_icmp_lt (tgt := 14) hX dX12_in_2 (by decide) (fun c2 => ?_) (fun c2 => ?_)
  · refine zk_iconst (v := 0) hX dX12_in_14 (by decide) ?_
    refine zk_zret hX hE rfl ⟨rfl, rfl⟩ dX12_in_15 rfl ⟨_, rfl, ?_⟩
    exact ⟨by first | exact zb_t' (by grind) | exact zb_f' (by grind), rfl⟩
  · refine zk_iload_n hX dX12_in_5 rfl ?_
    refine zk_iload_n hX dX12_in_6 rfl ?_
    refine zk_icmp_gt (tgt := 14) hX dX12_in_7 (by decide) (fun c7 => ?_) (fun c7 => ?_)
    · refine zk_iconst (v := 0) hX dX12_in_14 (by decide) ?_
      refine zk_zret hX hE rfl ⟨rfl, rfl⟩ dX12_in_15 rfl ⟨_, rfl, ?_⟩
      exact ⟨by first | exact zb_t' (by grind) | exact zb_f' (by grind), rfl⟩
    · refine zk_iconst (v := 1) hX dX12_in_10 (by decide) ?_
      refine zk_goto (tgt := 15) hX dX12_in_11 (by decide) ?_
      refine zk_zret hX hE rfl ⟨rfl, rfl⟩ dX12_in_15 rfl ⟨_, rfl, ?_⟩
      exact ⟨by first | exact zb_t' (by grind) | exact zb_f' (by grind), rfl⟩
theorem s_X12_isRow {G : zG} {w : zW} (v : Int32) : zEi G mX12_isRow [.int v] w (zb (0 ≤ v ∧ v ≤ 5)) w := by
  refine zC_of (lo := [_]) kcX12_isRow (Nat.le_of_ble_eq_true rfl) rfl (fun X hX hE => ?_)
  refine zk_iload_n hX dX12_isRow_0 rfl ?_
  refine zk_iconst (v := 0) hX dX12_isRow_1 (by decide) ?_
  refine zk_iconst (v := 5) hX dX12_isRow_2 (by decide) ?_
  refine zk_S3i hX dX12_isRow_3 kcX12_in mlX12_131 smX12_in rfl (s_X12_in _ _ _) (Nat.le_of_ble_eq_true rfl) rfl ?_
  refine zk_zret hX hE rfl ⟨rfl, rfl⟩ dX12_isRow_6 (by simp [narrow, zb_and1]) ⟨_, rfl, ?_⟩
  exact ⟨rfl, rfl⟩
theorem s_X12_isText {G : zG} {w : zW} (v : Int32) : zEi G mX12_isText [.int v] w (zb (0 ≤ v ∧ v ≤ 3)) w := by
  refine zC_of (lo := [_]) kcX12_isText (Nat.le_of_ble_eq_true rfl) rfl (fun X hX hE => ?_)
  refine zk_iload_n hX dX12_isText_0 rfl ?_
  refine zk_iconst (v := 0) hX dX12_isText_1 (by decide) ?_
  refine zk_iconst (v := 3) hX dX12_isText_2 (by decide) ?_
  refine zk_S3i hX dX12_isText_3 kcX12_in mlX12_131 smX12_in rfl (s_X12_in _ _ _) (Nat.le_of_ble_eq_true rfl) rfl ?_
  refine zk_zret hX hE rfl ⟨rfl, rfl⟩ dX12_isText_6 (by simp [narrow, zb_and1]) ⟨_, rfl, ?_⟩
  exact ⟨rfl, rfl⟩
theorem s_X12_isBeast {G : zG} {w : zW} (v : Int32) : zEi G mX12_isBeast [.int v] w (zb (0 ≤ v ∧ v ≤ 6 - 1)) w := by
  refine zC_of (lo := [_]) kcX12_isBeast (Nat.le_of_ble_eq_true rfl) rfl (fun X hX hE => ?_)
  refine zk_iload_n hX dX12_isBeast_0 rfl ?_
  refine zk_iconst (v := 0) hX dX12_isBeast_1 (by decide) ?_
  refine zk_iconst (v := 5) hX dX12_isBeast_2 (by decide) ?_
  refine zk_S3i hX dX12_isBeast_3 kcX12_in mlX12_131 smX12_in rfl (s_X12_in _ _ _) (Nat.le_of_ble_eq_true rfl) rfl ?_
  refine zk_zret hX hE rfl ⟨rfl, rfl⟩ dX12_isBeast_6 (by simp [narrow, zb_and1]) ⟨_, rfl, ?_⟩
  exact ⟨rfl, rfl⟩
theorem s_X12_isBeast' {G : zG} {w : zW} (v : Int32) : zEi G mX12_isBeast [.int v] w (zb (0 ≤ v ∧ v ≤ 5)) w := s_X12_isBeast v
def mfind (w : zW) (k : Nat) : zW := zsi (zsi w 166 0 (nI k)) 167 k (w.1 167 k + 1)
theorem s_X12_meets {G : zG} {w : zW} (hw : zWf w) (k : Nat) (hk : 1 ≤ k ∧ k ≤ 5) : zEi G mX12_meets [.ref 166, .int (nI k)] w (-3) (mfind w k) := by
  refine zC_of (lo := [_, _]) kcX12_meets (Nat.le_of_ble_eq_true rfl) rfl (fun X hX hE => ?_)
  refine zk_aload_n hX dX12_meets_0 rfl ?_
  refine zk_iload_n hX dX12_meets_1 rfl ?_
  refine zk_putI hX dX12_meets_2 plX12_128 (fun h => by cases h) k_166 z_166 rfl rfl ?_
  refine zk_aload_n hX dX12_meets_5 rfl ?_
  refine zk_getR hX dX12_meets_6 flX12_7 k_166 z_166 ((zWf_i hw) _ _ (by decide) |>.trans r_166_1) ?_
  refine zk_iload_n hX dX12_meets_9 rfl ?_
  refine zk_dup2 hX dX12_meets_10 rfl rfl ?_
  refine zk_ialdE hX dX12_meets_11 rfl k_167 z_167 (by first | assumption | omega) rfl ?_
  refine zk_iconst (v := 1) hX dX12_meets_12 (by decide) ?_
  refine zk_iadd hX dX12_meets_13 ?_
  refine zk_iastE hX dX12_meets_14 rfl k_167 z_167 (by first | assumption | omega) rfl ?_
  refine zk_bipush (v := -3) hX dX12_meets_15 (by decide) ?_
  refine zk_iret hX hE rfl ⟨rfl, rfl⟩ dX12_meets_17 ⟨_, rfl, ?_⟩
  exact ⟨rfl, rfl⟩
theorem s_X12_tells {G : zG} {w : zW} (v a : Int32) : zEi G mX12_tells [.ref 166, .int v, .int a] w a (zsi w 166 2 v) := by
  refine zC_of (lo := [_, _, _]) kcX12_tells (Nat.le_of_ble_eq_true rfl) rfl (fun X hX hE => ?_)
  refine zk_aload_n hX dX12_tells_0 rfl ?_
  refine zk_iload_n hX dX12_tells_1 rfl ?_
  refine zk_putI hX dX12_tells_2 plX12_135 (fun h => by cases h) k_166 z_166 rfl rfl ?_
  refine zk_iload_n hX dX12_tells_5 rfl ?_
  refine zk_iret hX hE rfl ⟨rfl, rfl⟩ dX12_tells_6 ⟨_, rfl, ?_⟩
  exact ⟨rfl, rfl⟩
theorem s_X12_rowAt {G : zG} {w : zW} (hw : zWf w) {r i : Nat} (h : 40 * r + i < 240) : zEi G mX12_rowAt [.ref 166, .int (nI r), .int (nI i)] w (w.1 169 (40 * r + i)) w := by
  refine zC_of (lo := [_, _, _]) kcX12_rowAt (Nat.le_of_ble_eq_true rfl) rfl (fun X hX hE => ?_)
  refine zk_aload_n hX dX12_rowAt_0 rfl ?_
  refine zk_getR hX dX12_rowAt_1 flX12_16 k_166 z_166 (hw _ _ (by decide) |>.trans r_166_6) ?_
  refine zk_bipush (v := 40) hX dX12_rowAt_4 (by decide) ?_
  refine zk_iload_n hX dX12_rowAt_6 rfl ?_
  refine zk_imul hX dX12_rowAt_7 ?_
  refine zk_iload_n hX dX12_rowAt_8 rfl ?_
  refine zk_iadd hX dX12_rowAt_9 ?_
  refine zk_ialdE hX dX12_rowAt_10 (nI_addE (nI_mulE (nI_k 40 rfl) rfl) rfl) k_169 z_169 (by first | assumption | omega) rfl ?_
  refine zk_iret hX hE rfl ⟨rfl, rfl⟩ dX12_rowAt_11 ⟨_, rfl, ?_⟩
  exact ⟨rfl, rfl⟩
/-! rows of the model -/
theorem s_X12_row_bad {G : zG} {w : zW} (r n : Int32) (h : ¬ ((0 ≤ r ∧ r ≤ 5) ∧ n ≤ 40)) : zEi G mX12_row [.ref 166, .int r, .int n] w (-1) w := by
  refine zC_of (lo := [_, _, _, _]) kcX12_row (Nat.le_of_ble_eq_true rfl) rfl (fun X hX hE => ?_)
  refine zk_iload_n hX dX12_row_0 rfl ?_
  refine zk_S1i hX dX12_row_1 kcX12_isRow mlX12_141 smX12_isRow rfl (s_X12_isRow _) (Nat.le_of_ble_eq_true rfl) rfl ?_
  refine zk_if_eqB (tgt := 13) hX dX12_row_4 (by decide) (fun c4 => ?_) (fun c4 => ?_)
  · refine zk_iconst (v := -1) hX dX12_row_13 (by decide) ?_
    refine zk_iret hX hE rfl ⟨rfl, rfl⟩ dX12_row_14 ⟨_, rfl, ?_⟩
    exact ⟨rfl, rfl⟩
  · refine zk_iload_n hX dX12_row_7 rfl ?_
    refine zk_bipush (v := 40) hX dX12_row_8 (by decide) ?_
    refine zk_icmp_le (tgt := 15) hX dX12_row_10 (by decide) (fun c10 => ?_) (fun c10 => ?_)
    · exact absurd ⟨c4, c10⟩ h
    refine zk_iconst (v := -1) hX dX12_row_13 (by decide) ?_
    refine zk_iret hX hE rfl ⟨rfl, rfl⟩ dX12_row_14 ⟨_, rfl, ?_⟩
    exact ⟨rfl, rfl⟩
def m_row (w : zW) (r : Nat) (n : Int32) : Int32 × zW := if n < 0 then (-3, mfind w 5) else (n, zfillR (zsi w 168 r n) 169 (40 * r) 40 0)
theorem s_X12_row {G : zG} {w : zW} (hw : zWf w) {r : Nat} (hr : r < 6) {n : Int32} (hn : n ≤ 40) : zFi G mX12_row [.ref 166, .int (nI r), .int n] w (m_row w r n) := by
  refine zC_of (lo := [_, _, _, _]) kcX12_row (Nat.le_of_ble_eq_true rfl) rfl (fun X hX hE => ?_)
  have loop : ¬ n < 0 → ∀ k i, i + k = 40 → zk0 G X mX12_row 34 [.ref 166, .int (nI r), .int n, .int (nI i)] [] (zfillR (zsi w 168 r n) 169 (40 * r) i 0) := by
    intro hn0 k
    induction k with
    | zero =>
      intro i hi
      obtain rfl : i = 40 := by omega
      refine zk_iload_n hX dX12_row_34 rfl ?_
      refine zk_bipush (v := 40) hX dX12_row_35 (by decide) ?_
      refine zk_icmp_ge (tgt := 58) hX dX12_row_37 (by decide) (fun c37 => ?_) (fun c37 => ?_)
      rotate_left
      · exact absurd (nI_le (a := 40) (b := 40) (Nat.le_refl _) (by decide)) c37
      refine zk_iload_n hX dX12_row_58 rfl ?_
      refine zk_iret hX hE rfl ⟨rfl, rfl⟩ dX12_row_59 ⟨_, rfl, ?_⟩
      unfold m_row; rw [if_neg hn0]; exact ⟨rfl, rfl⟩
    | succ k ih =>
      intro i hi
      refine zk_iload_n hX dX12_row_34 rfl ?_
      refine zk_bipush (v := 40) hX dX12_row_35 (by decide) ?_
      refine zk_icmp_ge (tgt := 58) hX dX12_row_37 (by decide) (fun c37 => ?_) (fun c37 => ?_)
      · exact absurd c37 (nI_ge (b := 40) (by omega) (by decide))
      refine zk_aload_n hX dX12_row_40 rfl ?_
      refine zk_getR hX dX12_row_41 flX12_16 k_166 z_166 (hw _ _ (by decide) |>.trans r_166_6) ?_
      refine zk_bipush (v := 40) hX dX12_row_44 (by decide) ?_
      refine zk_iload_n hX dX12_row_46 rfl ?_
      refine zk_imul hX dX12_row_47 ?_
      refine zk_iload_n hX dX12_row_48 rfl ?_
      refine zk_iadd hX dX12_row_49 ?_
      refine zk_iconst (v := 0) hX dX12_row_50 (by decide) ?_
      refine zk_iastE hX dX12_row_51 (nI_addE (nI_mulE (nI_k 40 rfl) rfl) rfl) k_169 z_169 (by first | assumption | omega) rfl ?_
      rw [zfillR_s]
      refine zk_iinc (lo' := [_, _, _, _]) hX dX12_row_52 rfl (by first | exact zinc _ | exact rfl) (Nat.le_of_ble_eq_true rfl) rfl rfl ?_
      refine zk_goto (tgt := 34) hX dX12_row_55 (by decide) ?_
      exact ih (i + 1) (by omega)
  refine zk_iload_n hX dX12_row_0 rfl ?_
  refine zk_S1i hX dX12_row_1 kcX12_isRow mlX12_141 smX12_isRow rfl (s_X12_isRow _) (Nat.le_of_ble_eq_true rfl) rfl ?_
  refine zk_if_eqB (tgt := 13) hX dX12_row_4 (by decide) (fun c4 => ?_) (fun c4 => ?_)
  · exact absurd c4 (not_not_intro (zrle (n := 5) (by omega)))
  refine zk_iload_n hX dX12_row_7 rfl ?_
  refine zk_bipush (v := 40) hX dX12_row_8 (by decide) ?_
  refine zk_icmp_le (tgt := 15) hX dX12_row_10 (by decide) (fun c10 => ?_) (fun c10 => ?_)
  rotate_left
  · exact absurd hn c10
  refine zk_iload_n hX dX12_row_15 rfl ?_
  refine zk_if_ge (tgt := 25) hX dX12_row_16 (by decide) (fun c16 => ?_) (fun c16 => ?_)
  · refine zk_aload_n hX dX12_row_25 rfl ?_
    refine zk_getR hX dX12_row_26 flX12_13 k_166 z_166 (hw _ _ (by decide) |>.trans r_166_5) ?_
    refine zk_iload_n hX dX12_row_29 rfl ?_
    refine zk_iload_n hX dX12_row_30 rfl ?_
    refine zk_iastE hX dX12_row_31 rfl k_168 z_168 (by first | assumption | omega) rfl ?_
    refine zk_iconst (v := 0) hX dX12_row_32 (by decide) ?_
    refine zk_istore_n (lo' := [_, _, _, _]) hX dX12_row_33 (Nat.le_of_ble_eq_true rfl) rfl rfl ?_
    rw [← zfillR_0 (w := zsi w 168 r n) (k := 169) (lo := 40 * r) (v := 0)]
    exact loop (by grind) 40 0 (by omega)
  · refine zk_aload_n hX dX12_row_19 rfl ?_
    refine zk_iconst (v := 5) hX dX12_row_20 (by decide) ?_
    refine zk_V1i hX dX12_row_21 kcX12_meets mlX12_145 viX12_meets rfl k_166 z_166 (s_X12_meets hw _ (by decide)) (Nat.le_of_ble_eq_true rfl) rfl ?_
    refine zk_iret hX hE rfl ⟨rfl, rfl⟩ dX12_row_24 ⟨_, rfl, ?_⟩
    unfold m_row; rw [if_pos (by grind)]; exact ⟨rfl, rfl⟩
theorem s_X12_at_bad {G : zG} {w : zW} (r i : Int32) (h : ¬ (0 ≤ r ∧ r ≤ 5)) : zEi G mX12_at [.ref 166, .int r, .int i] w (-1) w := by
  refine zC_of (lo := [_, _, _]) kcX12_at (Nat.le_of_ble_eq_true rfl) rfl (fun X hX hE => ?_)
  refine zk_iload_n hX dX12_at_0 rfl ?_
  refine zk_S1i hX dX12_at_1 kcX12_isRow mlX12_141 smX12_isRow rfl (s_X12_isRow _) (Nat.le_of_ble_eq_true rfl) rfl ?_
  refine zk_if_neB (tgt := 9) hX dX12_at_4 (by decide) (fun c4 => ?_) (fun c4 => ?_)
  · exact absurd c4 h
  refine zk_iconst (v := -1) hX dX12_at_7 (by decide) ?_
  refine zk_iret hX hE rfl ⟨rfl, rfl⟩ dX12_at_8 ⟨_, rfl, ?_⟩
  exact ⟨rfl, rfl⟩
/-- a place by an index, or 0 -/
def mRget (w : zW) (r : Nat) (i : Int32) : Int32 := w.1 169 (40 * r + i.toNatClampNeg)
def m_at (w : zW) (r : Nat) (i : Int32) : Int32 × zW := if ¬ 0 ≤ w.1 168 r then (-3, mfind w 1) else if ¬ (0 ≤ i ∧ i < w.1 168 r) then (-3, mfind w 2) else (1, zsi w 166 2 (mRget w r i))
theorem zSz_le1 {x : Int32} {L : Nat} (h : zSz x L) (hL : L < 5000) {i : Int32} : (0 ≤ i ∧ i ≤ x - 1) ↔ (0 ≤ i ∧ i < x) := by
  rcases h with rfl | ⟨m, hm, rfl⟩
  · constructor <;> intro h <;> grind
  · have h0 : 0 ≤ nI m := nI_pos' (by omega)
    constructor <;> intro h <;> grind
theorem s_X12_at {G : zG} {w : zW} (hw : zWf w) {r : Nat} (hr : r < 6) (hS : zSz (w.1 168 r) 40) (i : Int32) : zFi G mX12_at [.ref 166, .int (nI r), .int i] w (m_at w r i) := by
  refine zC_of (lo := [_, _, _]) kcX12_at (Nat.le_of_ble_eq_true rfl) rfl (fun X hX hE => ?_)
  refine zk_iload_n hX dX12_at_0 rfl ?_
  refine zk_S1i hX dX12_at_1 kcX12_isRow mlX12_141 smX12_isRow rfl (s_X12_isRow _) (Nat.le_of_ble_eq_true rfl) rfl ?_
  refine zk_if_neB (tgt := 9) hX dX12_at_4 (by decide) (fun c4 => ?_) (fun c4 => ?_)
  rotate_left
  · exact absurd (zrle (n := 5) (by omega)) c4
  refine zk_aload_n hX dX12_at_9 rfl ?_
  refine zk_getR hX dX12_at_10 flX12_13 k_166 z_166 (hw _ _ (by decide) |>.trans r_166_5) ?_
  refine zk_iload_n hX dX12_at_13 rfl ?_
  refine zk_ialdE hX dX12_at_14 rfl k_168 z_168 (by first | assumption | omega) rfl ?_
  refine zk_if_ge (tgt := 24) hX dX12_at_15 (by decide) (fun c15 => ?_) (fun c15 => ?_)
  · refine zk_iload_n hX dX12_at_24 rfl ?_
    refine zk_iconst (v := 0) hX dX12_at_25 (by decide) ?_
    refine zk_aload_n hX dX12_at_26 rfl ?_
    refine zk_getR hX dX12_at_27 flX12_13 k_166 z_166 (hw _ _ (by decide) |>.trans r_166_5) ?_
    refine zk_iload_n hX dX12_at_30 rfl ?_
    refine zk_ialdE hX dX12_at_31 rfl k_168 z_168 (by first | assumption | omega) rfl ?_
    refine zk_iconst (v := 1) hX dX12_at_32 (by decide) ?_
    refine zk_isub hX dX12_at_33 ?_
    refine zk_S3i hX dX12_at_34 kcX12_in mlX12_131 smX12_in rfl (s_X12_in _ _ _) (Nat.le_of_ble_eq_true rfl) rfl ?_
    refine zk_if_eqB (tgt := 54) hX dX12_at_37 (by decide) (fun c37 => ?_) (fun c37 => ?_)
    · refine zk_aload_n hX dX12_at_54 rfl ?_
      refine zk_iconst (v := 2) hX dX12_at_55 (by decide) ?_
      refine zk_V1i hX dX12_at_56 kcX12_meets mlX12_145 viX12_meets rfl k_166 z_166 (s_X12_meets hw _ (by decide)) (Nat.le_of_ble_eq_true rfl) rfl ?_
      refine zk_iret hX hE rfl ⟨rfl, rfl⟩ dX12_at_59 ⟨_, rfl, ?_⟩
      unfold m_at; rw [zSz_le1 hS (by decide)] at c37; rw [if_neg (by grind)]; first | (rw [if_pos (by grind)]; exact ⟨rfl, rfl⟩) | (rw [if_neg (by grind)]; unfold mRget; rw [nI_clamp (by omega)]; exact ⟨rfl, rfl⟩)
    · obtain ⟨j, m, hj, hm, rfl, e⟩ := zSz_in hS (by decide) ((zSz_le1 hS (by decide)).mp c37).1 ((zSz_le1 hS (by decide)).mp c37).2
      refine zk_aload_n hX dX12_at_40 rfl ?_
      refine zk_aload_n hX dX12_at_41 rfl ?_
      refine zk_iload_n hX dX12_at_42 rfl ?_
      refine zk_iload_n hX dX12_at_43 rfl ?_
      refine zk_V2i hX dX12_at_44 kcX12_rowAt mlX12_149 viX12_rowAt rfl k_166 z_166 (s_X12_rowAt hw (by omega)) (Nat.le_of_ble_eq_true rfl) rfl ?_
      refine zk_iconst (v := 1) hX dX12_at_47 (by decide) ?_
      refine zk_V2i hX dX12_at_48 kcX12_tells mlX12_153 viX12_tells rfl k_166 z_166 (s_X12_tells _ _) (Nat.le_of_ble_eq_true rfl) rfl ?_
      refine zk_goto (tgt := 59) hX dX12_at_51 (by decide) ?_
      refine zk_iret hX hE rfl ⟨rfl, rfl⟩ dX12_at_59 ⟨_, rfl, ?_⟩
      unfold m_at; rw [zSz_le1 hS (by decide)] at c37; rw [if_neg (by grind)]; first | (rw [if_pos (by grind)]; exact ⟨rfl, rfl⟩) | (rw [if_neg (by grind)]; unfold mRget; rw [nI_clamp (by omega)]; exact ⟨rfl, rfl⟩)
  · refine zk_aload_n hX dX12_at_18 rfl ?_
    refine zk_iconst (v := 1) hX dX12_at_19 (by decide) ?_
    refine zk_V1i hX dX12_at_20 kcX12_meets mlX12_145 viX12_meets rfl k_166 z_166 (s_X12_meets hw _ (by decide)) (Nat.le_of_ble_eq_true rfl) rfl ?_
    refine zk_iret hX hE rfl ⟨rfl, rfl⟩ dX12_at_23 ⟨_, rfl, ?_⟩
    unfold m_at; rw [if_pos (by grind)]; exact ⟨rfl, rfl⟩
theorem s_X12_lay_bad {G : zG} {w : zW} (r i v : Int32) (h : ¬ (0 ≤ r ∧ r ≤ 5)) : zEi G mX12_lay [.ref 166, .int r, .int i, .int v] w (-1) w := by
  refine zC_of (lo := [_, _, _, _, _]) kcX12_lay (Nat.le_of_ble_eq_true rfl) rfl (fun X hX hE => ?_)
  refine zk_iload_n hX dX12_lay_0 rfl ?_
  refine zk_S1i hX dX12_lay_1 kcX12_isRow mlX12_141 smX12_isRow rfl (s_X12_isRow _) (Nat.le_of_ble_eq_true rfl) rfl ?_
  refine zk_if_neB (tgt := 9) hX dX12_lay_4 (by decide) (fun c4 => ?_) (fun c4 => ?_)
  · exact absurd c4 h
  refine zk_iconst (v := -1) hX dX12_lay_7 (by decide) ?_
  refine zk_iret hX hE rfl ⟨rfl, rfl⟩ dX12_lay_8 ⟨_, rfl, ?_⟩
  exact ⟨rfl, rfl⟩
def m_lay (w : zW) (r : Nat) (i v : Int32) : Int32 × zW := if ¬ 0 ≤ w.1 168 r then (-3, mfind w 1) else if ¬ (0 ≤ i ∧ i < w.1 168 r) then (-3, mfind w 2) else (1, zsi (zsi w 169 (40 * r + i.toNatClampNeg) v) 166 2 (mRget w r i))
theorem s_X12_lay {G : zG} {w : zW} (hw : zWf w) {r : Nat} (hr : r < 6) (hS : zSz (w.1 168 r) 40) (i v : Int32) : zFi G mX12_lay [.ref 166, .int (nI r), .int i, .int v] w (m_lay w r i v) := by
  refine zC_of (lo := [_, _, _, _, _]) kcX12_lay (Nat.le_of_ble_eq_true rfl) rfl (fun X hX hE => ?_)
  refine zk_iload_n hX dX12_lay_0 rfl ?_
  refine zk_S1i hX dX12_lay_1 kcX12_isRow mlX12_141 smX12_isRow rfl (s_X12_isRow _) (Nat.le_of_ble_eq_true rfl) rfl ?_
  refine zk_if_neB (tgt := 9) hX dX12_lay_4 (by decide) (fun c4 => ?_) (fun c4 => ?_)
  rotate_left
  · exact absurd (zrle (n := 5) (by omega)) c4
  refine zk_aload_n hX dX12_lay_9 rfl ?_
  refine zk_getR hX dX12_lay_10 flX12_13 k_166 z_166 (hw _ _ (by decide) |>.trans r_166_5) ?_
  refine zk_iload_n hX dX12_lay_13 rfl ?_
  refine zk_ialdE hX dX12_lay_14 rfl k_168 z_168 (by first | assumption | omega) rfl ?_
  refine zk_if_ge (tgt := 24) hX dX12_lay_15 (by decide) (fun c15 => ?_) (fun c15 => ?_)
  · refine zk_iload_n hX dX12_lay_24 rfl ?_
    refine zk_iconst (v := 0) hX dX12_lay_25 (by decide) ?_
    refine zk_aload_n hX dX12_lay_26 rfl ?_
    refine zk_getR hX dX12_lay_27 flX12_13 k_166 z_166 (hw _ _ (by decide) |>.trans r_166_5) ?_
    refine zk_iload_n hX dX12_lay_30 rfl ?_
    refine zk_ialdE hX dX12_lay_31 rfl k_168 z_168 (by first | assumption | omega) rfl ?_
    refine zk_iconst (v := 1) hX dX12_lay_32 (by decide) ?_
    refine zk_isub hX dX12_lay_33 ?_
    refine zk_S3i hX dX12_lay_34 kcX12_in mlX12_131 smX12_in rfl (s_X12_in _ _ _) (Nat.le_of_ble_eq_true rfl) rfl ?_
    refine zk_if_neB (tgt := 46) hX dX12_lay_37 (by decide) (fun c37 => ?_) (fun c37 => ?_)
    · rw [zSz_le1 hS (by decide)] at c37
      obtain ⟨j, m, hj, hm, rfl, e⟩ := zSz_in hS (by decide) c37.1 c37.2
      refine zk_aload_n hX dX12_lay_46 rfl ?_
      refine zk_iload_n hX dX12_lay_47 rfl ?_
      refine zk_iload_n hX dX12_lay_48 rfl ?_
      refine zk_V2i hX dX12_lay_49 kcX12_rowAt mlX12_149 viX12_rowAt rfl k_166 z_166 (s_X12_rowAt hw (by omega)) (Nat.le_of_ble_eq_true rfl) rfl ?_
      refine zk_istore (lo' := [_, _, _, _, _]) hX dX12_lay_52 (Nat.le_of_ble_eq_true rfl) rfl rfl ?_
      refine zk_aload_n hX dX12_lay_54 rfl ?_
      refine zk_getR hX dX12_lay_55 flX12_16 k_166 z_166 (hw _ _ (by decide) |>.trans r_166_6) ?_
      refine zk_bipush (v := 40) hX dX12_lay_58 (by decide) ?_
      refine zk_iload_n hX dX12_lay_60 rfl ?_
      refine zk_imul hX dX12_lay_61 ?_
      refine zk_iload_n hX dX12_lay_62 rfl ?_
      refine zk_iadd hX dX12_lay_63 ?_
      refine zk_iload_n hX dX12_lay_64 rfl ?_
      refine zk_iastE hX dX12_lay_65 (nI_addE (nI_mulE (nI_k 40 rfl) rfl) rfl) k_169 z_169 (by first | assumption | omega) rfl ?_
      refine zk_aload_n hX dX12_lay_66 rfl ?_
      refine zk_iload hX dX12_lay_67 rfl ?_
      refine zk_iconst (v := 1) hX dX12_lay_69 (by decide) ?_
      refine zk_V2i hX dX12_lay_70 kcX12_tells mlX12_153 viX12_tells rfl k_166 z_166 (s_X12_tells _ _) (Nat.le_of_ble_eq_true rfl) rfl ?_
      refine zk_iret hX hE rfl ⟨rfl, rfl⟩ dX12_lay_73 ⟨_, rfl, ?_⟩
      unfold m_lay mRget; rw [if_neg (by grind), if_neg (by grind), nI_clamp (by omega)]; exact ⟨rfl, rfl⟩
    · rw [zSz_le1 hS (by decide)] at c37
      refine zk_aload_n hX dX12_lay_40 rfl ?_
      refine zk_iconst (v := 2) hX dX12_lay_41 (by decide) ?_
      refine zk_V1i hX dX12_lay_42 kcX12_meets mlX12_145 viX12_meets rfl k_166 z_166 (s_X12_meets hw _ (by decide)) (Nat.le_of_ble_eq_true rfl) rfl ?_
      refine zk_iret hX hE rfl ⟨rfl, rfl⟩ dX12_lay_45 ⟨_, rfl, ?_⟩
      unfold m_lay; rw [if_neg (by grind), if_pos (by grind)]; exact ⟨rfl, rfl⟩
  · refine zk_aload_n hX dX12_lay_18 rfl ?_
    refine zk_iconst (v := 1) hX dX12_lay_19 (by decide) ?_
    refine zk_V1i hX dX12_lay_20 kcX12_meets mlX12_145 viX12_meets rfl k_166 z_166 (s_X12_meets hw _ (by decide)) (Nat.le_of_ble_eq_true rfl) rfl ?_
    refine zk_iret hX hE rfl ⟨rfl, rfl⟩ dX12_lay_23 ⟨_, rfl, ?_⟩
    unfold m_lay; rw [if_pos (by grind)]; exact ⟨rfl, rfl⟩
theorem s_X12_tear_bad {G : zG} {w : zW} (r : Int32) (h : ¬ (0 ≤ r ∧ r ≤ 5)) : zEi G mX12_tear [.ref 166, .int r] w (-1) w := by
  refine zC_of (lo := [_, _]) kcX12_tear (Nat.le_of_ble_eq_true rfl) rfl (fun X hX hE => ?_)
  refine zk_iload_n hX dX12_tear_0 rfl ?_
  refine zk_S1i hX dX12_tear_1 kcX12_isRow mlX12_141 smX12_isRow rfl (s_X12_isRow _) (Nat.le_of_ble_eq_true rfl) rfl ?_
  refine zk_if_neB (tgt := 9) hX dX12_tear_4 (by decide) (fun c4 => ?_) (fun c4 => ?_)
  · exact absurd c4 h
  refine zk_iconst (v := -1) hX dX12_tear_7 (by decide) ?_
  refine zk_iret hX hE rfl ⟨rfl, rfl⟩ dX12_tear_8 ⟨_, rfl, ?_⟩
  exact ⟨rfl, rfl⟩
def m_tear (w : zW) (r : Nat) : Int32 × zW := if ¬ 0 ≤ w.1 168 r then (-3, mfind w 1) else (1, zsi w 168 r (-1))
theorem s_X12_tear {G : zG} {w : zW} (hw : zWf w) {r : Nat} (hr : r < 6) : zFi G mX12_tear [.ref 166, .int (nI r)] w (m_tear w r) := by
  refine zC_of (lo := [_, _]) kcX12_tear (Nat.le_of_ble_eq_true rfl) rfl (fun X hX hE => ?_)
  refine zk_iload_n hX dX12_tear_0 rfl ?_
  refine zk_S1i hX dX12_tear_1 kcX12_isRow mlX12_141 smX12_isRow rfl (s_X12_isRow _) (Nat.le_of_ble_eq_true rfl) rfl ?_
  refine zk_if_neB (tgt := 9) hX dX12_tear_4 (by decide) (fun c4 => ?_) (fun c4 => ?_)
  rotate_left
  · exact absurd (zrle (n := 5) (by omega)) c4
  refine zk_aload_n hX dX12_tear_9 rfl ?_
  refine zk_getR hX dX12_tear_10 flX12_13 k_166 z_166 (hw _ _ (by decide) |>.trans r_166_5) ?_
  refine zk_iload_n hX dX12_tear_13 rfl ?_
  refine zk_ialdE hX dX12_tear_14 rfl k_168 z_168 (by first | assumption | omega) rfl ?_
  refine zk_if_ge (tgt := 24) hX dX12_tear_15 (by decide) (fun c15 => ?_) (fun c15 => ?_)
  · refine zk_aload_n hX dX12_tear_24 rfl ?_
    refine zk_getR hX dX12_tear_25 flX12_13 k_166 z_166 (hw _ _ (by decide) |>.trans r_166_5) ?_
    refine zk_iload_n hX dX12_tear_28 rfl ?_
    refine zk_iconst (v := -1) hX dX12_tear_29 (by decide) ?_
    refine zk_iastE hX dX12_tear_30 rfl k_168 z_168 (by first | assumption | omega) rfl ?_
    refine zk_iconst (v := 1) hX dX12_tear_31 (by decide) ?_
    refine zk_iret hX hE rfl ⟨rfl, rfl⟩ dX12_tear_32 ⟨_, rfl, ?_⟩
    unfold m_tear; (repeat' split) <;> first | exact ⟨rfl, rfl⟩ | grind
  · refine zk_aload_n hX dX12_tear_18 rfl ?_
    refine zk_iconst (v := 1) hX dX12_tear_19 (by decide) ?_
    refine zk_V1i hX dX12_tear_20 kcX12_meets mlX12_145 viX12_meets rfl k_166 z_166 (s_X12_meets hw _ (by decide)) (Nat.le_of_ble_eq_true rfl) rfl ?_
    refine zk_iret hX hE rfl ⟨rfl, rfl⟩ dX12_tear_23 ⟨_, rfl, ?_⟩
    unfold m_tear; (repeat' split) <;> first | exact ⟨rfl, rfl⟩ | grind
theorem s_X12_mean_bad {G : zG} {w : zW} (r : Int32) (h : ¬ (0 ≤ r ∧ r ≤ 5)) : zEi G mX12_mean [.ref 166, .int r] w (-1) w := by
  refine zC_of (lo := [_, _, _, _, _]) kcX12_mean (Nat.le_of_ble_eq_true rfl) rfl (fun X hX hE => ?_)
  refine zk_iload_n hX dX12_mean_0 rfl ?_
  refine zk_S1i hX dX12_mean_1 kcX12_isRow mlX12_141 smX12_isRow rfl (s_X12_isRow _) (Nat.le_of_ble_eq_true rfl) rfl ?_
  refine zk_if_neB (tgt := 9) hX dX12_mean_4 (by decide) (fun c4 => ?_) (fun c4 => ?_)
  · exact absurd c4 h
  refine zk_iconst (v := -1) hX dX12_mean_7 (by decide) ?_
  refine zk_iret hX hE rfl ⟨rfl, rfl⟩ dX12_mean_8 ⟨_, rfl, ?_⟩
  exact ⟨rfl, rfl⟩
def m_mean (w : zW) (r : Nat) : Int32 × zW := if ¬ 0 ≤ w.1 168 r then (-3, mfind w 1) else if w.1 168 r < 1 then (-3, mfind w 4) else (1, zsi w 166 2 (zsumL (fun i => w.1 169 (40 * r + i)) (w.1 168 r).toNatClampNeg / (w.1 168 r).toInt64).toInt32)
theorem s_X12_mean {G : zG} {w : zW} (hw : zWf w) {r : Nat} (hr : r < 6) (hS : zSz (w.1 168 r) 40) : zFi G mX12_mean [.ref 166, .int (nI r)] w (m_mean w r) := by
  refine zC_of (lo := [_, _, _, _, _]) kcX12_mean (Nat.le_of_ble_eq_true rfl) rfl (fun X hX hE => ?_)
  have loop : ∀ m, w.1 168 r = nI m → m ≤ 40 → 0 < m → ∀ k i, i + k = m → zk0 G X mX12_mean 44 [.ref 166, .int (nI r), .long (zsumL (fun i => w.1 169 (40 * r + i)) i), .null, .int (nI i)] [] w := by
    intro m e hm hm1 k
    induction k with
    | zero =>
      intro i hi
      obtain rfl : i = m := by omega
      refine zk_iload hX dX12_mean_44 rfl ?_
      refine zk_aload_n hX dX12_mean_46 rfl ?_
      refine zk_getR hX dX12_mean_47 flX12_13 k_166 z_166 (hw _ _ (by decide) |>.trans r_166_5) ?_
      refine zk_iload_n hX dX12_mean_50 rfl ?_
      refine zk_ialdE hX dX12_mean_51 rfl k_168 z_168 (by first | assumption | omega) rfl ?_
      rw [e]
      refine zk_icmp_ge (tgt := 72) hX dX12_mean_52 (by decide) (fun c52 => ?_) (fun c52 => ?_)
      rotate_left
      · exact absurd (nI_le (Nat.le_refl _) (by omega)) c52
      refine zk_aload_n hX dX12_mean_72 rfl ?_
      refine zk_lload_n hX dX12_mean_73 rfl ?_
      refine zk_aload_n hX dX12_mean_74 rfl ?_
      refine zk_getR hX dX12_mean_75 flX12_13 k_166 z_166 (hw _ _ (by decide) |>.trans r_166_5) ?_
      refine zk_iload_n hX dX12_mean_78 rfl ?_
      refine zk_ialdE hX dX12_mean_79 rfl k_168 z_168 (by first | assumption | omega) rfl ?_
      rw [e]
      refine zk_i2l hX dX12_mean_80 ?_
      refine zk_ldiv hX dX12_mean_81 (z64_0 (by omega) hm1) ?_
      refine zk_l2i hX dX12_mean_82 ?_
      refine zk_iconst (v := 1) hX dX12_mean_83 (by decide) ?_
      refine zk_V2i hX dX12_mean_84 kcX12_tells mlX12_153 viX12_tells rfl k_166 z_166 (s_X12_tells _ _) (Nat.le_of_ble_eq_true rfl) rfl ?_
      refine zk_iret hX hE rfl ⟨rfl, rfl⟩ dX12_mean_87 ⟨_, rfl, ?_⟩
      unfold m_mean; have g1 : ¬ nI i < 1 := nI_nlt (b := 1) hm1 (by omega); have g2 : 0 ≤ nI i := nI_pos' (by omega); rw [e, if_neg (by grind), if_neg g1, nI_clamp (by omega)]; exact ⟨rfl, rfl⟩
    | succ k ih =>
      intro i hi
      refine zk_iload hX dX12_mean_44 rfl ?_
      refine zk_aload_n hX dX12_mean_46 rfl ?_
      refine zk_getR hX dX12_mean_47 flX12_13 k_166 z_166 (hw _ _ (by decide) |>.trans r_166_5) ?_
      refine zk_iload_n hX dX12_mean_50 rfl ?_
      refine zk_ialdE hX dX12_mean_51 rfl k_168 z_168 (by first | assumption | omega) rfl ?_
      rw [e]
      refine zk_icmp_ge (tgt := 72) hX dX12_mean_52 (by decide) (fun c52 => ?_) (fun c52 => ?_)
      · exact absurd c52 (nI_ge (by omega) (by omega))
      refine zk_lload_n hX dX12_mean_55 rfl ?_
      refine zk_aload_n hX dX12_mean_56 rfl ?_
      refine zk_iload_n hX dX12_mean_57 rfl ?_
      refine zk_iload hX dX12_mean_58 rfl ?_
      refine zk_V2i hX dX12_mean_60 kcX12_rowAt mlX12_149 viX12_rowAt rfl k_166 z_166 (s_X12_rowAt hw (by omega)) (Nat.le_of_ble_eq_true rfl) rfl ?_
      refine zk_i2l hX dX12_mean_63 ?_
      refine zk_ladd hX dX12_mean_64 ?_
      refine zk_lstore_n (lo' := [_, _, _, _, _]) hX dX12_mean_65 (Nat.le_of_ble_eq_true rfl) rfl rfl ?_
      refine zk_iinc (lo' := [_, _, _, _, _]) hX dX12_mean_66 rfl (by first | exact zinc _ | exact rfl) (Nat.le_of_ble_eq_true rfl) rfl rfl ?_
      refine zk_goto (tgt := 44) hX dX12_mean_69 (by decide) ?_
      exact ih (i + 1) (by omega)
  refine zk_iload_n hX dX12_mean_0 rfl ?_
  refine zk_S1i hX dX12_mean_1 kcX12_isRow mlX12_141 smX12_isRow rfl (s_X12_isRow _) (Nat.le_of_ble_eq_true rfl) rfl ?_
  refine zk_if_neB (tgt := 9) hX dX12_mean_4 (by decide) (fun c4 => ?_) (fun c4 => ?_)
  rotate_left
  · exact absurd (zrle (n := 5) (by omega)) c4
  refine zk_aload_n hX dX12_mean_9 rfl ?_
  refine zk_getR hX dX12_mean_10 flX12_13 k_166 z_166 (hw _ _ (by decide) |>.trans r_166_5) ?_
  refine zk_iload_n hX dX12_mean_13 rfl ?_
  refine zk_ialdE hX dX12_mean_14 rfl k_168 z_168 (by first | assumption | omega) rfl ?_
  refine zk_if_ge (tgt := 24) hX dX12_mean_15 (by decide) (fun c15 => ?_) (fun c15 => ?_)
  · refine zk_aload_n hX dX12_mean_24 rfl ?_
    refine zk_getR hX dX12_mean_25 flX12_13 k_166 z_166 (hw _ _ (by decide) |>.trans r_166_5) ?_
    refine zk_iload_n hX dX12_mean_28 rfl ?_
    refine zk_ialdE hX dX12_mean_29 rfl k_168 z_168 (by first | assumption | omega) rfl ?_
    refine zk_if_ne (tgt := 39) hX dX12_mean_30 (by decide) (fun c30 => ?_) (fun c30 => ?_)
    · refine zk_lconst (v := 0) hX dX12_mean_39 rfl ?_
      refine zk_lstore_n (lo' := [_, _, _, _, _]) hX dX12_mean_40 (Nat.le_of_ble_eq_true rfl) rfl rfl ?_
      refine zk_iconst (v := 0) hX dX12_mean_41 (by decide) ?_
      refine zk_istore (lo' := [_, _, _, _, _]) hX dX12_mean_42 (Nat.le_of_ble_eq_true rfl) rfl rfl ?_
      obtain ⟨m, hm, e⟩ := zSz_nat hS (by grind)
      have hm1 : 0 < m := by
        rcases Nat.eq_zero_or_pos m with rfl | h
        · rw [e] at c30; exact absurd nI_0 c30
        · exact h
      exact loop m e hm hm1 m 0 (by omega)
    · refine zk_aload_n hX dX12_mean_33 rfl ?_
      refine zk_iconst (v := 4) hX dX12_mean_34 (by decide) ?_
      refine zk_V1i hX dX12_mean_35 kcX12_meets mlX12_145 viX12_meets rfl k_166 z_166 (s_X12_meets hw _ (by decide)) (Nat.le_of_ble_eq_true rfl) rfl ?_
      refine zk_iret hX hE rfl ⟨rfl, rfl⟩ dX12_mean_38 ⟨_, rfl, ?_⟩
      unfold m_mean; rw [if_neg (by grind), if_pos (by grind)]; exact ⟨rfl, rfl⟩
  · refine zk_aload_n hX dX12_mean_18 rfl ?_
    refine zk_iconst (v := 1) hX dX12_mean_19 (by decide) ?_
    refine zk_V1i hX dX12_mean_20 kcX12_meets mlX12_145 viX12_meets rfl k_166 z_166 (s_X12_meets hw _ (by decide)) (Nat.le_of_ble_eq_true rfl) rfl ?_
    refine zk_iret hX hE rfl ⟨rfl, rfl⟩ dX12_mean_23 ⟨_, rfl, ?_⟩
    unfold m_mean; rw [if_pos (by grind)]; exact ⟨rfl, rfl⟩
theorem s_X12_text_bad {G : zG} {w : zW} (r n : Int32) (h : ¬ ((0 ≤ r ∧ r ≤ 3) ∧ n ≤ 80)) : zEi G mX12_text [.ref 166, .int r, .int n] w (-1) w := by
  refine zC_of (lo := [_, _, _, _]) kcX12_text (Nat.le_of_ble_eq_true rfl) rfl (fun X hX hE => ?_)
  refine zk_iload_n hX dX12_text_0 rfl ?_
  refine zk_S1i hX dX12_text_1 kcX12_isText mlX12_156 smX12_isText rfl (s_X12_isText _) (Nat.le_of_ble_eq_true rfl) rfl ?_
  refine zk_if_eqB (tgt := 13) hX dX12_text_4 (by decide) (fun c4 => ?_) (fun c4 => ?_)
  · refine zk_iconst (v := -1) hX dX12_text_13 (by decide) ?_
    refine zk_iret hX hE rfl ⟨rfl, rfl⟩ dX12_text_14 ⟨_, rfl, ?_⟩
    exact ⟨rfl, rfl⟩
  · refine zk_iload_n hX dX12_text_7 rfl ?_
    refine zk_bipush (v := 80) hX dX12_text_8 (by decide) ?_
    refine zk_icmp_le (tgt := 15) hX dX12_text_10 (by decide) (fun c10 => ?_) (fun c10 => ?_)
    · exact absurd ⟨c4, c10⟩ h
    refine zk_iconst (v := -1) hX dX12_text_13 (by decide) ?_
    refine zk_iret hX hE rfl ⟨rfl, rfl⟩ dX12_text_14 ⟨_, rfl, ?_⟩
    exact ⟨rfl, rfl⟩
def m_text (w : zW) (r : Nat) (n : Int32) : Int32 × zW := if n < 0 then (-3, mfind w 5) else (n, zfillR (zsi w 171 r n) 172 (80 * r) 80 32)
theorem s_X12_text {G : zG} {w : zW} (hw : zWf w) {r : Nat} (hr : r < 4) {n : Int32} (hn : n ≤ 80) : zFi G mX12_text [.ref 166, .int (nI r), .int n] w (m_text w r n) := by
  refine zC_of (lo := [_, _, _, _]) kcX12_text (Nat.le_of_ble_eq_true rfl) rfl (fun X hX hE => ?_)
  have loop : ¬ n < 0 → ∀ k i, i + k = 80 → zk0 G X mX12_text 34 [.ref 166, .int (nI r), .int n, .int (nI i)] [] (zfillR (zsi w 171 r n) 172 (80 * r) i 32) := by
    intro hn0 k
    induction k with
    | zero =>
      intro i hi
      obtain rfl : i = 80 := by omega
      refine zk_iload_n hX dX12_text_34 rfl ?_
      refine zk_bipush (v := 80) hX dX12_text_35 (by decide) ?_
      refine zk_icmp_ge (tgt := 59) hX dX12_text_37 (by decide) (fun c37 => ?_) (fun c37 => ?_)
      rotate_left
      · exact absurd (nI_le (a := 80) (b := 80) (Nat.le_refl _) (by decide)) c37
      refine zk_iload_n hX dX12_text_59 rfl ?_
      refine zk_iret hX hE rfl ⟨rfl, rfl⟩ dX12_text_60 ⟨_, rfl, ?_⟩
      unfold m_text; rw [if_neg hn0]; exact ⟨rfl, rfl⟩
    | succ k ih =>
      intro i hi
      refine zk_iload_n hX dX12_text_34 rfl ?_
      refine zk_bipush (v := 80) hX dX12_text_35 (by decide) ?_
      refine zk_icmp_ge (tgt := 59) hX dX12_text_37 (by decide) (fun c37 => ?_) (fun c37 => ?_)
      · exact absurd c37 (nI_ge (b := 80) (by omega) (by decide))
      refine zk_aload_n hX dX12_text_40 rfl ?_
      refine zk_getR hX dX12_text_41 flX12_25 k_166 z_166 (hw _ _ (by decide) |>.trans r_166_9) ?_
      refine zk_bipush (v := 80) hX dX12_text_44 (by decide) ?_
      refine zk_iload_n hX dX12_text_46 rfl ?_
      refine zk_imul hX dX12_text_47 ?_
      refine zk_iload_n hX dX12_text_48 rfl ?_
      refine zk_iadd hX dX12_text_49 ?_
      refine zk_bipush (v := 32) hX dX12_text_50 (by decide) ?_
      refine zk_bastE hX dX12_text_52 (nI_addE (nI_mulE (nI_k 80 rfl) rfl) rfl) k_172 z_172 (by first | assumption | omega) rfl ?_
      rw [show vp_nar .byte 32 = 32 by decide, zfillR_s]
      refine zk_iinc (lo' := [_, _, _, _]) hX dX12_text_53 rfl (by first | exact zinc _ | exact rfl) (Nat.le_of_ble_eq_true rfl) rfl rfl ?_
      refine zk_goto (tgt := 34) hX dX12_text_56 (by decide) ?_
      exact ih (i + 1) (by omega)
  refine zk_iload_n hX dX12_text_0 rfl ?_
  refine zk_S1i hX dX12_text_1 kcX12_isText mlX12_156 smX12_isText rfl (s_X12_isText _) (Nat.le_of_ble_eq_true rfl) rfl ?_
  refine zk_if_eqB (tgt := 13) hX dX12_text_4 (by decide) (fun c4 => ?_) (fun c4 => ?_)
  · exact absurd c4 (not_not_intro (zrle (n := 3) (by omega)))
  refine zk_iload_n hX dX12_text_7 rfl ?_
  refine zk_bipush (v := 80) hX dX12_text_8 (by decide) ?_
  refine zk_icmp_le (tgt := 15) hX dX12_text_10 (by decide) (fun c10 => ?_) (fun c10 => ?_)
  rotate_left
  · exact absurd hn c10
  refine zk_iload_n hX dX12_text_15 rfl ?_
  refine zk_if_ge (tgt := 25) hX dX12_text_16 (by decide) (fun c16 => ?_) (fun c16 => ?_)
  · refine zk_aload_n hX dX12_text_25 rfl ?_
    refine zk_getR hX dX12_text_26 flX12_22 k_166 z_166 (hw _ _ (by decide) |>.trans r_166_8) ?_
    refine zk_iload_n hX dX12_text_29 rfl ?_
    refine zk_iload_n hX dX12_text_30 rfl ?_
    refine zk_iastE hX dX12_text_31 rfl k_171 z_171 (by first | assumption | omega) rfl ?_
    refine zk_iconst (v := 0) hX dX12_text_32 (by decide) ?_
    refine zk_istore_n (lo' := [_, _, _, _]) hX dX12_text_33 (Nat.le_of_ble_eq_true rfl) rfl rfl ?_
    rw [← zfillR_0 (w := zsi w 171 r n) (k := 172) (lo := 80 * r) (v := 32)]
    exact loop (by grind) 80 0 (by omega)
  · refine zk_aload_n hX dX12_text_19 rfl ?_
    refine zk_iconst (v := 5) hX dX12_text_20 (by decide) ?_
    refine zk_V1i hX dX12_text_21 kcX12_meets mlX12_145 viX12_meets rfl k_166 z_166 (s_X12_meets hw _ (by decide)) (Nat.le_of_ble_eq_true rfl) rfl ?_
    refine zk_iret hX hE rfl ⟨rfl, rfl⟩ dX12_text_24 ⟨_, rfl, ?_⟩
    unfold m_text; rw [if_pos (by grind)]; exact ⟨rfl, rfl⟩
theorem s_X12_put_bad {G : zG} {w : zW} (r i v : Int32) (h : ¬ (0 ≤ r ∧ r ≤ 3)) : zEi G mX12_put [.ref 166, .int r, .int i, .int v] w (-1) w := by
  refine zC_of (lo := [_, _, _, _, _]) kcX12_put (Nat.le_of_ble_eq_true rfl) rfl (fun X hX hE => ?_)
  refine zk_iload_n hX dX12_put_0 rfl ?_
  refine zk_S1i hX dX12_put_1 kcX12_isText mlX12_156 smX12_isText rfl (s_X12_isText _) (Nat.le_of_ble_eq_true rfl) rfl ?_
  refine zk_if_neB (tgt := 9) hX dX12_put_4 (by decide) (fun c4 => ?_) (fun c4 => ?_)
  · exact absurd c4 h
  refine zk_iconst (v := -1) hX dX12_put_7 (by decide) ?_
  refine zk_iret hX hE rfl ⟨rfl, rfl⟩ dX12_put_8 ⟨_, rfl, ?_⟩
  exact ⟨rfl, rfl⟩
theorem znar_b (v : Int32) : vp_nar .byte v.toInt8.toInt32 = v.toInt8.toInt32 := by
  rw [vp_nar_byte]
  simp
def m_put (w : zW) (r : Nat) (i v : Int32) : Int32 × zW := if ¬ 0 ≤ w.1 171 r then (-3, mfind w 1) else if ¬ (0 ≤ i ∧ i < w.1 171 r) then (-3, mfind w 2) else (1000 + w.1 172 (80 * r + i.toNatClampNeg), zsi w 172 (80 * r + i.toNatClampNeg) v.toInt8.toInt32)
theorem s_X12_put {G : zG} {w : zW} (hw : zWf w) {r : Nat} (hr : r < 4) (hS : zSz (w.1 171 r) 80) (i v : Int32) : zFi G mX12_put [.ref 166, .int (nI r), .int i, .int v] w (m_put w r i v) := by
  refine zC_of (lo := [_, _, _, _, _]) kcX12_put (Nat.le_of_ble_eq_true rfl) rfl (fun X hX hE => ?_)
  refine zk_iload_n hX dX12_put_0 rfl ?_
  refine zk_S1i hX dX12_put_1 kcX12_isText mlX12_156 smX12_isText rfl (s_X12_isText _) (Nat.le_of_ble_eq_true rfl) rfl ?_
  refine zk_if_neB (tgt := 9) hX dX12_put_4 (by decide) (fun c4 => ?_) (fun c4 => ?_)
  rotate_left
  · exact absurd (zrle (n := 3) (by omega)) c4
  refine zk_aload_n hX dX12_put_9 rfl ?_
  refine zk_getR hX dX12_put_10 flX12_22 k_166 z_166 (hw _ _ (by decide) |>.trans r_166_8) ?_
  refine zk_iload_n hX dX12_put_13 rfl ?_
  refine zk_ialdE hX dX12_put_14 rfl k_171 z_171 (by first | assumption | omega) rfl ?_
  refine zk_if_ge (tgt := 24) hX dX12_put_15 (by decide) (fun c15 => ?_) (fun c15 => ?_)
  · refine zk_iload_n hX dX12_put_24 rfl ?_
    refine zk_iconst (v := 0) hX dX12_put_25 (by decide) ?_
    refine zk_aload_n hX dX12_put_26 rfl ?_
    refine zk_getR hX dX12_put_27 flX12_22 k_166 z_166 (hw _ _ (by decide) |>.trans r_166_8) ?_
    refine zk_iload_n hX dX12_put_30 rfl ?_
    refine zk_ialdE hX dX12_put_31 rfl k_171 z_171 (by first | assumption | omega) rfl ?_
    refine zk_iconst (v := 1) hX dX12_put_32 (by decide) ?_
    refine zk_isub hX dX12_put_33 ?_
    refine zk_S3i hX dX12_put_34 kcX12_in mlX12_131 smX12_in rfl (s_X12_in _ _ _) (Nat.le_of_ble_eq_true rfl) rfl ?_
    refine zk_if_neB (tgt := 46) hX dX12_put_37 (by decide) (fun c37 => ?_) (fun c37 => ?_)
    · rw [zSz_le1 hS (by decide)] at c37
      obtain ⟨j, m, hj, hm, rfl, e⟩ := zSz_in hS (by decide) c37.1 c37.2
      refine zk_aload_n hX dX12_put_46 rfl ?_
      refine zk_getR hX dX12_put_47 flX12_25 k_166 z_166 (hw _ _ (by decide) |>.trans r_166_9) ?_
      refine zk_bipush (v := 80) hX dX12_put_50 (by decide) ?_
      refine zk_iload_n hX dX12_put_52 rfl ?_
      refine zk_imul hX dX12_put_53 ?_
      refine zk_iload_n hX dX12_put_54 rfl ?_
      refine zk_iadd hX dX12_put_55 ?_
      refine zk_baldE hX dX12_put_56 (nI_addE (nI_mulE (nI_k 80 rfl) rfl) rfl) k_172 z_172 (by first | assumption | omega) rfl ?_
      refine zk_istore (lo' := [_, _, _, _, _]) hX dX12_put_57 (Nat.le_of_ble_eq_true rfl) rfl rfl ?_
      refine zk_aload_n hX dX12_put_59 rfl ?_
      refine zk_getR hX dX12_put_60 flX12_25 k_166 z_166 (hw _ _ (by decide) |>.trans r_166_9) ?_
      refine zk_bipush (v := 80) hX dX12_put_63 (by decide) ?_
      refine zk_iload_n hX dX12_put_65 rfl ?_
      refine zk_imul hX dX12_put_66 ?_
      refine zk_iload_n hX dX12_put_67 rfl ?_
      refine zk_iadd hX dX12_put_68 ?_
      refine zk_iload_n hX dX12_put_69 rfl ?_
      refine zk_i2b hX dX12_put_70 ?_
      refine zk_bastE hX dX12_put_71 (nI_addE (nI_mulE (nI_k 80 rfl) rfl) rfl) k_172 z_172 (by first | assumption | omega) rfl ?_
      rw [znar_b]
      refine zk_sipush (v := 1000) hX dX12_put_72 (by decide) ?_
      refine zk_iload hX dX12_put_75 rfl ?_
      refine zk_iadd hX dX12_put_77 ?_
      refine zk_iret hX hE rfl ⟨rfl, rfl⟩ dX12_put_78 ⟨_, rfl, ?_⟩
      unfold m_put; rw [if_neg (by grind), if_neg (by grind), nI_clamp (by omega)]; exact ⟨rfl, rfl⟩
    · rw [zSz_le1 hS (by decide)] at c37
      refine zk_aload_n hX dX12_put_40 rfl ?_
      refine zk_iconst (v := 2) hX dX12_put_41 (by decide) ?_
      refine zk_V1i hX dX12_put_42 kcX12_meets mlX12_145 viX12_meets rfl k_166 z_166 (s_X12_meets hw _ (by decide)) (Nat.le_of_ble_eq_true rfl) rfl ?_
      refine zk_iret hX hE rfl ⟨rfl, rfl⟩ dX12_put_45 ⟨_, rfl, ?_⟩
      unfold m_put; rw [if_neg (by grind), if_pos (by grind)]; exact ⟨rfl, rfl⟩
  · refine zk_aload_n hX dX12_put_18 rfl ?_
    refine zk_iconst (v := 1) hX dX12_put_19 (by decide) ?_
    refine zk_V1i hX dX12_put_20 kcX12_meets mlX12_145 viX12_meets rfl k_166 z_166 (s_X12_meets hw _ (by decide)) (Nat.le_of_ble_eq_true rfl) rfl ?_
    refine zk_iret hX hE rfl ⟨rfl, rfl⟩ dX12_put_23 ⟨_, rfl, ?_⟩
    unfold m_put; rw [if_pos (by grind)]; exact ⟨rfl, rfl⟩
theorem s_X12_copy_bad {G : zG} {w : zW} (r i t j n : Int32) (h : ¬ ((0 ≤ r ∧ r ≤ 5) ∧ (0 ≤ t ∧ t ≤ 5))) : zEi G mX12_copy [.ref 166, .int r, .int i, .int t, .int j, .int n] w (-1) w := by
  refine zC_of (lo := [_, _, _, _, _, _, _]) kcX12_copy (Nat.le_of_ble_eq_true rfl) rfl (fun X hX hE => ?_)
  refine zk_iload_n hX dX12_copy_0 rfl ?_
  refine zk_S1i hX dX12_copy_1 kcX12_isRow mlX12_141 smX12_isRow rfl (s_X12_isRow _) (Nat.le_of_ble_eq_true rfl) rfl ?_
  refine zk_if_eqB (tgt := 14) hX dX12_copy_4 (by decide) (fun c4 => ?_) (fun c4 => ?_)
  · refine zk_iconst (v := -1) hX dX12_copy_14 (by decide) ?_
    refine zk_iret hX hE rfl ⟨rfl, rfl⟩ dX12_copy_15 ⟨_, rfl, ?_⟩
    exact ⟨rfl, rfl⟩
  · refine zk_iload_n hX dX12_copy_7 rfl ?_
    refine zk_S1i hX dX12_copy_8 kcX12_isRow mlX12_141 smX12_isRow rfl (s_X12_isRow _) (Nat.le_of_ble_eq_true rfl) rfl ?_
    refine zk_if_neB (tgt := 16) hX dX12_copy_11 (by decide) (fun c11 => ?_) (fun c11 => ?_)
    · exact absurd c11 (fun c => h ⟨c4, c⟩)
    refine zk_iconst (v := -1) hX dX12_copy_14 (by decide) ?_
    refine zk_iret hX hE rfl ⟨rfl, rfl⟩ dX12_copy_15 ⟨_, rfl, ?_⟩
    exact ⟨rfl, rfl⟩
theorem s_X12_copy_n {G : zG} {w : zW} (hw : zWf w) {r t : Nat} (hr : r < 6) (ht : t < 6) (i j n : Int32) (hn : n < 0) : zEi G mX12_copy [.ref 166, .int (nI r), .int i, .int (nI t), .int j, .int n] w (-3) (mfind w 5) := by
  refine zC_of (lo := [_, _, _, _, _, _, _]) kcX12_copy (Nat.le_of_ble_eq_true rfl) rfl (fun X hX hE => ?_)
  refine zk_iload_n hX dX12_copy_0 rfl ?_
  refine zk_S1i hX dX12_copy_1 kcX12_isRow mlX12_141 smX12_isRow rfl (s_X12_isRow _) (Nat.le_of_ble_eq_true rfl) rfl ?_
  refine zk_if_eqB (tgt := 14) hX dX12_copy_4 (by decide) (fun c4 => ?_) (fun c4 => ?_)
  · exact absurd c4 (not_not_intro (zrle (n := 5) (by omega)))
  refine zk_iload_n hX dX12_copy_7 rfl ?_
  refine zk_S1i hX dX12_copy_8 kcX12_isRow mlX12_141 smX12_isRow rfl (s_X12_isRow _) (Nat.le_of_ble_eq_true rfl) rfl ?_
  refine zk_if_neB (tgt := 16) hX dX12_copy_11 (by decide) (fun c11 => ?_) (fun c11 => ?_)
  rotate_left
  · exact absurd (zrle (n := 5) (by omega)) c11
  refine zk_iload hX dX12_copy_16 rfl ?_
  refine zk_if_ge (tgt := 27) hX dX12_copy_18 (by decide) (fun c18 => ?_) (fun c18 => ?_)
  · exact absurd c18 (Int32.not_le.mpr hn)
  refine zk_aload_n hX dX12_copy_21 rfl ?_
  refine zk_iconst (v := 5) hX dX12_copy_22 (by decide) ?_
  refine zk_V1i hX dX12_copy_23 kcX12_meets mlX12_145 viX12_meets rfl k_166 z_166 (s_X12_meets hw _ (by decide)) (Nat.le_of_ble_eq_true rfl) rfl ?_
  refine zk_iret hX hE rfl ⟨rfl, rfl⟩ dX12_copy_26 ⟨_, rfl, ?_⟩
  exact ⟨rfl, rfl⟩
theorem s_X12_copy_m {G : zG} {w : zW} (hw : zWf w) {r t : Nat} (hr : r < 6) (ht : t < 6) (i j n : Int32) (hn : ¬ n < 0) (hm : ¬ (0 ≤ w.1 168 r ∧ 0 ≤ w.1 168 t)) : zEi G mX12_copy [.ref 166, .int (nI r), .int i, .int (nI t), .int j, .int n] w (-3) (mfind w 1) := by
  refine zC_of (lo := [_, _, _, _, _, _, _]) kcX12_copy (Nat.le_of_ble_eq_true rfl) rfl (fun X hX hE => ?_)
  refine zk_iload_n hX dX12_copy_0 rfl ?_
  refine zk_S1i hX dX12_copy_1 kcX12_isRow mlX12_141 smX12_isRow rfl (s_X12_isRow _) (Nat.le_of_ble_eq_true rfl) rfl ?_
  refine zk_if_eqB (tgt := 14) hX dX12_copy_4 (by decide) (fun c4 => ?_) (fun c4 => ?_)
  · exact absurd c4 (not_not_intro (zrle (n := 5) (by omega)))
  refine zk_iload_n hX dX12_copy_7 rfl ?_
  refine zk_S1i hX dX12_copy_8 kcX12_isRow mlX12_141 smX12_isRow rfl (s_X12_isRow _) (Nat.le_of_ble_eq_true rfl) rfl ?_
  refine zk_if_neB (tgt := 16) hX dX12_copy_11 (by decide) (fun c11 => ?_) (fun c11 => ?_)
  rotate_left
  · exact absurd (zrle (n := 5) (by omega)) c11
  refine zk_iload hX dX12_copy_16 rfl ?_
  refine zk_if_ge (tgt := 27) hX dX12_copy_18 (by decide) (fun c18 => ?_) (fun c18 => ?_)
  rotate_left
  · exact absurd (Int32.not_lt.mp hn) c18
  refine zk_aload_n hX dX12_copy_27 rfl ?_
  refine zk_getR hX dX12_copy_28 flX12_13 k_166 z_166 (hw _ _ (by decide) |>.trans r_166_5) ?_
  refine zk_iload_n hX dX12_copy_31 rfl ?_
  refine zk_ialdE hX dX12_copy_32 rfl k_168 z_168 (by first | assumption | omega) rfl ?_
  refine zk_if_lt (tgt := 45) hX dX12_copy_33 (by decide) (fun c33 => ?_) (fun c33 => ?_)
  · refine zk_aload_n hX dX12_copy_45 rfl ?_
    refine zk_iconst (v := 1) hX dX12_copy_46 (by decide) ?_
    refine zk_V1i hX dX12_copy_47 kcX12_meets mlX12_145 viX12_meets rfl k_166 z_166 (s_X12_meets hw _ (by decide)) (Nat.le_of_ble_eq_true rfl) rfl ?_
    refine zk_iret hX hE rfl ⟨rfl, rfl⟩ dX12_copy_50 ⟨_, rfl, ?_⟩
    exact ⟨rfl, rfl⟩
  · refine zk_aload_n hX dX12_copy_36 rfl ?_
    refine zk_getR hX dX12_copy_37 flX12_13 k_166 z_166 (hw _ _ (by decide) |>.trans r_166_5) ?_
    refine zk_iload_n hX dX12_copy_40 rfl ?_
    refine zk_ialdE hX dX12_copy_41 rfl k_168 z_168 (by first | assumption | omega) rfl ?_
    refine zk_if_ge (tgt := 51) hX dX12_copy_42 (by decide) (fun c42 => ?_) (fun c42 => ?_)
    · exact absurd c42 (fun c => hm ⟨Int32.not_lt.mp c33, c⟩)
    refine zk_aload_n hX dX12_copy_45 rfl ?_
    refine zk_iconst (v := 1) hX dX12_copy_46 (by decide) ?_
    refine zk_V1i hX dX12_copy_47 kcX12_meets mlX12_145 viX12_meets rfl k_166 z_166 (s_X12_meets hw _ (by decide)) (Nat.le_of_ble_eq_true rfl) rfl ?_
    refine zk_iret hX hE rfl ⟨rfl, rfl⟩ dX12_copy_50 ⟨_, rfl, ?_⟩
    exact ⟨rfl, rfl⟩
