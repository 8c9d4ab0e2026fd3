def cRows (w : zW) : Nat → Bool := fun r => decide (0 ≤ w.1 (4 + 2 * r) 0)
def cTexts (w : zW) : Nat → Bool := fun r => decide (0 ≤ w.1 (17 + 2 * r) 0)
theorem s_X11_there_r {G : zG} {w : zW} (hw : zWf w) : zEi G mX11_there [.ref 3] w (nI (zcnt (cRows w) 6)) w := by
  refine zC_of (lo := [_, _, _]) kcX11_there (Nat.le_of_ble_eq_true rfl) rfl (fun X hX hE => ?_)
  have loop : ∀ z i, i + z = 6 → zk0 G X mX11_there 4 [.ref 3, .int (nI (zcnt (cRows w) i)), .int (nI i)] [] w := by
    intro z
    induction z with
    | zero =>
      intro i hi
      obtain rfl : i = 6 := by omega
      refine zk_iload_n hX dX11_there_4 rfl ?_
      refine zk_aload_n hX dX11_there_5 rfl ?_
      refine zk_alen hX dX11_there_6 k_3 (Or.inr (Or.inr z_3)) rfl ?_
      refine zk_icmp_ge (tgt := 28) hX dX11_there_7 (by decide) (fun c7 => ?_) (fun c7 => ?_)
      rotate_left
      · exact absurd (by decide) c7
      refine zk_iload_n hX dX11_there_28 rfl ?_
      refine zk_iret hX hE rfl ⟨rfl, rfl⟩ dX11_there_29 ⟨_, rfl, ?_⟩
      exact ⟨rfl, rfl⟩
    | succ z ih =>
      intro i hi
      have hi6 : i < 6 := by omega
      have h0 := ih (i + 1) (by omega)
      rw [zcnt_s] at h0
      refine zk_iload_n hX dX11_there_4 rfl ?_
      refine zk_aload_n hX dX11_there_5 rfl ?_
      refine zk_alen hX dX11_there_6 k_3 (Or.inr (Or.inr z_3)) rfl ?_
      refine zk_icmp_ge (tgt := 28) hX dX11_there_7 (by decide) (fun c7 => ?_) (fun c7 => ?_)
      · exact absurd c7 (nI_ge (b := 6) (by omega) (by decide))
      refine zk_aload_n hX dX11_there_10 rfl ?_
      refine zk_iload_n hX dX11_there_11 rfl ?_
      refine zk_rows hX hw dX11_there_12 rfl (by first | assumption | omega) ?_
      refine zk_V0i hX dX11_there_13 kcX8_isThere mlX11_119 viX8_isThere rfl (zRwR0 (by first | assumption | omega)) (zRw_r _ (by first | assumption | omega)).2.1 (s_X8_isThere (zRwR hi6)) (Nat.le_of_ble_eq_true rfl) rfl ?_
      refine zk_if_eqB (tgt := 22) hX dX11_there_16 (by decide) (fun c16 => ?_) (fun c16 => ?_)
      · refine zk_iinc (lo' := [_, _, _]) hX dX11_there_22 rfl (by first | exact zinc _ | exact rfl) (Nat.le_of_ble_eq_true rfl) rfl rfl ?_
        refine zk_goto (tgt := 4) hX dX11_there_25 (by decide) ?_
        first
        | (rw [if_pos (show cRows w i = true from decide_eq_true (by first | exact c16 | exact Decidable.not_not.mp c16))] at h0; exact h0)
        | (rw [if_neg (show ¬ cRows w i = true from fun q => c16 (of_decide_eq_true q))] at h0; exact h0)
      · refine zk_iinc (lo' := [_, _, _]) hX dX11_there_19 rfl (by first | exact zinc _ | exact rfl) (Nat.le_of_ble_eq_true rfl) rfl rfl ?_
        refine zk_iinc (lo' := [_, _, _]) hX dX11_there_22 rfl (by first | exact zinc _ | exact rfl) (Nat.le_of_ble_eq_true rfl) rfl rfl ?_
        refine zk_goto (tgt := 4) hX dX11_there_25 (by decide) ?_
        first
        | (rw [if_pos (show cRows w i = true from decide_eq_true (by first | exact c16 | exact Decidable.not_not.mp c16))] at h0; exact h0)
        | (rw [if_neg (show ¬ cRows w i = true from fun q => c16 (of_decide_eq_true q))] at h0; exact h0)
  refine zk_iconst (v := 0) hX dX11_there_0 (by decide) ?_
  refine zk_istore_n (lo' := [_, _, _]) hX dX11_there_1 (Nat.le_of_ble_eq_true rfl) rfl rfl ?_
  refine zk_iconst (v := 0) hX dX11_there_2 (by decide) ?_
  refine zk_istore_n (lo' := [_, _, _]) hX dX11_there_3 (Nat.le_of_ble_eq_true rfl) rfl rfl ?_
  exact loop 6 0 (by omega)
theorem s_X11_there_t {G : zG} {w : zW} (hw : zWf w) : zEi G mX11_there [.ref 16] w (nI (zcnt (cTexts w) 4)) w := by
  refine zC_of (lo := [_, _, _]) kcX11_there (Nat.le_of_ble_eq_true rfl) rfl (fun X hX hE => ?_)
  have loop : ∀ z i, i + z = 4 → zk0 G X mX11_there 4 [.ref 16, .int (nI (zcnt (cTexts w) i)), .int (nI i)] [] w := by
    intro z
    induction z with
    | zero =>
      intro i hi
      obtain rfl : i = 4 := by omega
      refine zk_iload_n hX dX11_there_4 rfl ?_
      refine zk_aload_n hX dX11_there_5 rfl ?_
      refine zk_alen hX dX11_there_6 k_16 (Or.inr (Or.inr z_16)) rfl ?_
      refine zk_icmp_ge (tgt := 28) hX dX11_there_7 (by decide) (fun c7 => ?_) (fun c7 => ?_)
      rotate_left
      · exact absurd (by decide) c7
      refine zk_iload_n hX dX11_there_28 rfl ?_
      refine zk_iret hX hE rfl ⟨rfl, rfl⟩ dX11_there_29 ⟨_, rfl, ?_⟩
      exact ⟨rfl, rfl⟩
    | succ z ih =>
      intro i hi
      have hi6 : i < 4 := by omega
      have h0 := ih (i + 1) (by omega)
      rw [zcnt_s] at h0
      refine zk_iload_n hX dX11_there_4 rfl ?_
      refine zk_aload_n hX dX11_there_5 rfl ?_
      refine zk_alen hX dX11_there_6 k_16 (Or.inr (Or.inr z_16)) rfl ?_
      refine zk_icmp_ge (tgt := 28) hX dX11_there_7 (by decide) (fun c7 => ?_) (fun c7 => ?_)
      · exact absurd c7 (nI_ge (b := 4) (by omega) (by decide))
      refine zk_aload_n hX dX11_there_10 rfl ?_
      refine zk_iload_n hX dX11_there_11 rfl ?_
      refine zk_texts hX hw dX11_there_12 rfl (by first | assumption | omega) ?_
      refine zk_V0i hX dX11_there_13 kcX8_isThere mlX11_119 viX8_isThere rfl (zRwT0 (by first | assumption | omega)) (zRw_t _ (by first | assumption | omega)).2.1 (s_X8_isThere (zRwT hi6)) (Nat.le_of_ble_eq_true rfl) rfl ?_
      refine zk_if_eqB (tgt := 22) hX dX11_there_16 (by decide) (fun c16 => ?_) (fun c16 => ?_)
      · refine zk_iinc (lo' := [_, _, _]) hX dX11_there_22 rfl (by first | exact zinc _ | exact rfl) (Nat.le_of_ble_eq_true rfl) rfl rfl ?_
        refine zk_goto (tgt := 4) hX dX11_there_25 (by decide) ?_
        first
        | (rw [if_pos (show cTexts w i = true from decide_eq_true (by first | exact c16 | exact Decidable.not_not.mp c16))] at h0; exact h0)
        | (rw [if_neg (show ¬ cTexts w i = true from fun q => c16 (of_decide_eq_true q))] at h0; exact h0)
      · refine zk_iinc (lo' := [_, _, _]) hX dX11_there_19 rfl (by first | exact zinc _ | exact rfl) (Nat.le_of_ble_eq_true rfl) rfl rfl ?_
        refine zk_iinc (lo' := [_, _, _]) hX dX11_there_22 rfl (by first | exact zinc _ | exact rfl) (Nat.le_of_ble_eq_true rfl) rfl rfl ?_
        refine zk_goto (tgt := 4) hX dX11_there_25 (by decide) ?_
        first
        | (rw [if_pos (show cTexts w i = true from decide_eq_true (by first | exact c16 | exact Decidable.not_not.mp c16))] at h0; exact h0)
        | (rw [if_neg (show ¬ cTexts w i = true from fun q => c16 (of_decide_eq_true q))] at h0; exact h0)
  refine zk_iconst (v := 0) hX dX11_there_0 (by decide) ?_
  refine zk_istore_n (lo' := [_, _, _]) hX dX11_there_1 (Nat.le_of_ble_eq_true rfl) rfl rfl ?_
  refine zk_iconst (v := 0) hX dX11_there_2 (by decide) ?_
  refine zk_istore_n (lo' := [_, _, _]) hX dX11_there_3 (Nat.le_of_ble_eq_true rfl) rfl rfl ?_
  exact loop 4 0 (by omega)
def c_count (w : zW) (n k : Nat) : Int32 := if k = 0 then w.1 26 0 else if k = 1 then w.1 26 1 else if k = 2 then w.1 26 2 else if k = 3 then w.1 0 10 else if k = 4 then nI (zcnt (cHeld w) n) else if k = 5 then nI (zcnt (cThere w) 6) else if k = 6 then w.1 114 0 else if k = 7 then w.1 114 2 else if k = 8 then nI (zcnt (cRows w) 6) else nI (zcnt (cTexts w) 4)
theorem zsw10 {k : Int32} (h : ¬ (0 ≤ k ∧ k < 10)) : k.toInt < 0 ∨ 9 < k.toInt := by
  rw [Int32.le_iff_toInt_le, Int32.lt_iff_toInt_lt, show (0 : Int32).toInt = 0 from rfl, show (10 : Int32).toInt = 10 from rfl] at h
  omega
theorem s_X11_count_bad {G : zG} {w : zW} (k : Int32) (h : ¬ (0 ≤ k ∧ k < 10)) : zEi G mX11_count [.ref 0, .int k] w (-1) w := by
  refine zC_of (lo := [_, _]) kcX11_count (Nat.le_of_ble_eq_true rfl) rfl (fun X hX hE => ?_)
  refine zk_iload_n hX dX11_count_0 rfl ?_
  refine zk_tableOut hX dX11_count_1 (zsw10 h) (tgt := 127) (by decide) ?_
  refine zk_iconst (v := -1) hX dX11_count_127 (by decide) ?_
  refine zk_iret hX hE rfl ⟨rfl, rfl⟩ dX11_count_128 ⟨_, rfl, ?_⟩
  exact ⟨rfl, rfl⟩
theorem s_X11_count {G : zG} {w : zW} {n k : Nat} (hw : zWf w) (hn : n ≤ 12) (hP : w.1 0 10 = nI n) (hk : k < 10) : zEi G mX11_count [.ref 0, .int (nI k)] w (c_count w n k) w := by
  rcases (show k = 0 ∨ k = 1 ∨ k = 2 ∨ k = 3 ∨ k = 4 ∨ k = 5 ∨ k = 6 ∨ k = 7 ∨ k = 8 ∨ k = 9 by omega) with g | g | g | g | g | g | g | g | g | g <;> subst g
  · skip
    refine zC_of (lo := [_, _]) kcX11_count (Nat.le_of_ble_eq_true rfl) rfl (fun X hX hE => ?_)
    refine zk_iload_n hX dX11_count_0 rfl ?_
    refine zk_tableIn hX dX11_count_1 (by decide) (by decide) (off := 55) (tgt := 56) (by decide +kernel) (by decide) ?_
    refine zk_aload_n hX dX11_count_56 rfl ?_
    refine zk_getR hX dX11_count_57 flX11_38 k_0 z_0 (hw _ _ (by decide) |>.trans r_0_4) ?_
    refine zk_getI hX dX11_count_60 flX11_389 k_26 z_26 ?_
    refine zk_iret hX hE rfl ⟨rfl, rfl⟩ dX11_count_63 ⟨_, rfl, ?_⟩
    exact ⟨rfl, rfl⟩
  · skip
    refine zC_of (lo := [_, _]) kcX11_count (Nat.le_of_ble_eq_true rfl) rfl (fun X hX hE => ?_)
    refine zk_iload_n hX dX11_count_0 rfl ?_
    refine zk_tableIn hX dX11_count_1 (by decide) (by decide) (off := 63) (tgt := 64) (by decide +kernel) (by decide) ?_
    refine zk_aload_n hX dX11_count_64 rfl ?_
    refine zk_getR hX dX11_count_65 flX11_38 k_0 z_0 (hw _ _ (by decide) |>.trans r_0_4) ?_
    refine zk_getI hX dX11_count_68 flX11_170 k_26 z_26 ?_
    refine zk_iret hX hE rfl ⟨rfl, rfl⟩ dX11_count_71 ⟨_, rfl, ?_⟩
    exact ⟨rfl, rfl⟩
  · skip
    refine zC_of (lo := [_, _]) kcX11_count (Nat.le_of_ble_eq_true rfl) rfl (fun X hX hE => ?_)
    refine zk_iload_n hX dX11_count_0 rfl ?_
    refine zk_tableIn hX dX11_count_1 (by decide) (by decide) (off := 71) (tgt := 72) (by decide +kernel) (by decide) ?_
    refine zk_aload_n hX dX11_count_72 rfl ?_
    refine zk_getR hX dX11_count_73 flX11_38 k_0 z_0 (hw _ _ (by decide) |>.trans r_0_4) ?_
    refine zk_getI hX dX11_count_76 flX11_167 k_26 z_26 ?_
    refine zk_iret hX hE rfl ⟨rfl, rfl⟩ dX11_count_79 ⟨_, rfl, ?_⟩
    exact ⟨rfl, rfl⟩
  · skip
    refine zC_of (lo := [_, _]) kcX11_count (Nat.le_of_ble_eq_true rfl) rfl (fun X hX hE => ?_)
    refine zk_iload_n hX dX11_count_0 rfl ?_
    refine zk_tableIn hX dX11_count_1 (by decide) (by decide) (off := 79) (tgt := 80) (by decide +kernel) (by decide) ?_
    refine zk_aload_n hX dX11_count_80 rfl ?_
    refine zk_getI hX dX11_count_81 flX11_213 k_0 z_0 ?_
    refine zk_iret hX hE rfl ⟨rfl, rfl⟩ dX11_count_84 ⟨_, rfl, ?_⟩
    exact ⟨rfl, rfl⟩
  · skip
    refine zC_of (lo := [_, _]) kcX11_count (Nat.le_of_ble_eq_true rfl) rfl (fun X hX hE => ?_)
    refine zk_iload_n hX dX11_count_0 rfl ?_
    refine zk_tableIn hX dX11_count_1 (by decide) (by decide) (off := 84) (tgt := 85) (by decide +kernel) (by decide) ?_
    refine zk_aload_n hX dX11_count_85 rfl ?_
    refine zk_V0i hX dX11_count_86 kcX11_heldPoses mlX11_476 viX11_heldPoses rfl k_0 z_0 (s_X11_heldPoses hw hn hP) (Nat.le_of_ble_eq_true rfl) rfl ?_
    refine zk_iret hX hE rfl ⟨rfl, rfl⟩ dX11_count_89 ⟨_, rfl, ?_⟩
    exact ⟨rfl, rfl⟩
  · skip
    refine zC_of (lo := [_, _]) kcX11_count (Nat.le_of_ble_eq_true rfl) rfl (fun X hX hE => ?_)
    refine zk_iload_n hX dX11_count_0 rfl ?_
    refine zk_tableIn hX dX11_count_1 (by decide) (by decide) (off := 89) (tgt := 90) (by decide +kernel) (by decide) ?_
    refine zk_aload_n hX dX11_count_90 rfl ?_
    refine zk_V0i hX dX11_count_91 kcX11_beastsThere mlX11_479 viX11_beastsThere rfl k_0 z_0 (s_X11_beastsThere hw) (Nat.le_of_ble_eq_true rfl) rfl ?_
    refine zk_iret hX hE rfl ⟨rfl, rfl⟩ dX11_count_94 ⟨_, rfl, ?_⟩
    exact ⟨rfl, rfl⟩
  · skip
    refine zC_of (lo := [_, _]) kcX11_count (Nat.le_of_ble_eq_true rfl) rfl (fun X hX hE => ?_)
    refine zk_iload_n hX dX11_count_0 rfl ?_
    refine zk_tableIn hX dX11_count_1 (by decide) (by decide) (off := 94) (tgt := 95) (by decide +kernel) (by decide) ?_
    refine zk_aload_n hX dX11_count_95 rfl ?_
    refine zk_getR hX dX11_count_96 flX11_76 k_0 z_0 (hw _ _ (by decide) |>.trans r_0_12) ?_
    refine zk_getI hX dX11_count_99 flX11_408 k_114 z_114 ?_
    refine zk_iret hX hE rfl ⟨rfl, rfl⟩ dX11_count_102 ⟨_, rfl, ?_⟩
    exact ⟨rfl, rfl⟩
  · skip
    refine zC_of (lo := [_, _]) kcX11_count (Nat.le_of_ble_eq_true rfl) rfl (fun X hX hE => ?_)
    refine zk_iload_n hX dX11_count_0 rfl ?_
    refine zk_tableIn hX dX11_count_1 (by decide) (by decide) (off := 102) (tgt := 103) (by decide +kernel) (by decide) ?_
    refine zk_aload_n hX dX11_count_103 rfl ?_
    refine zk_getR hX dX11_count_104 flX11_76 k_0 z_0 (hw _ _ (by decide) |>.trans r_0_12) ?_
    refine zk_getI hX dX11_count_107 flX11_421 k_114 z_114 ?_
    refine zk_iret hX hE rfl ⟨rfl, rfl⟩ dX11_count_110 ⟨_, rfl, ?_⟩
    exact ⟨rfl, rfl⟩
  · skip
    refine zC_of (lo := [_, _]) kcX11_count (Nat.le_of_ble_eq_true rfl) rfl (fun X hX hE => ?_)
    refine zk_iload_n hX dX11_count_0 rfl ?_
    refine zk_tableIn hX dX11_count_1 (by decide) (by decide) (off := 110) (tgt := 111) (by decide +kernel) (by decide) ?_
    refine zk_aload_n hX dX11_count_111 rfl ?_
    refine zk_getR hX dX11_count_112 flX11_18 k_0 z_0 (hw _ _ (by decide) |>.trans r_0_1) ?_
    refine zk_S1i hX dX11_count_115 kcX11_there mlX11_482 smX11_there rfl (s_X11_there_r hw) (Nat.le_of_ble_eq_true rfl) rfl ?_
    refine zk_iret hX hE rfl ⟨rfl, rfl⟩ dX11_count_118 ⟨_, rfl, ?_⟩
    exact ⟨rfl, rfl⟩
  · skip
    refine zC_of (lo := [_, _]) kcX11_count (Nat.le_of_ble_eq_true rfl) rfl (fun X hX hE => ?_)
    refine zk_iload_n hX dX11_count_0 rfl ?_
    refine zk_tableIn hX dX11_count_1 (by decide) (by decide) (off := 118) (tgt := 119) (by decide +kernel) (by decide) ?_
    refine zk_aload_n hX dX11_count_119 rfl ?_
    refine zk_getR hX dX11_count_120 flX11_25 k_0 z_0 (hw _ _ (by decide) |>.trans r_0_2) ?_
    refine zk_S1i hX dX11_count_123 kcX11_there mlX11_482 smX11_there rfl (s_X11_there_t hw) (Nat.le_of_ble_eq_true rfl) rfl ?_
    refine zk_iret hX hE rfl ⟨rfl, rfl⟩ dX11_count_126 ⟨_, rfl, ?_⟩
    exact ⟨rfl, rfl⟩
/-! the model's -/
def mC1 (w : zW) (k : Nat) : Nat → Bool := fun p => decide (nI k = 4 ∧ (w.1 183 (3 * p) = 1 ∨ w.1 183 (3 * p) = 4 ∨ w.1 183 (3 * p) = 5))
def mC2 (w : zW) (k : Nat) : Nat → Bool := fun q => decide ((nI k = 5 ∧ ¬ w.1 186 q = 0) ∨ (nI k = 8 ∧ 0 ≤ w.1 168 q))
def mC3 (w : zW) (k : Nat) : Nat → Bool := fun q => decide (nI k = 9 ∧ 0 ≤ w.1 171 q)
def m_count (w : zW) (n k : Nat) : Int32 := if k = 0 then w.1 166 10 else if k = 1 then w.1 166 11 else if k = 2 then w.1 166 12 else if k = 3 then w.1 166 33 else if k = 6 then w.1 166 53 else if k = 7 then w.1 166 55 else nI (zcnt (mC1 w k) n + zcnt (mC2 w k) 6 + zcnt (mC3 w k) 4)
theorem s_X12_counted {G : zG} {w : zW} {n k : Nat} (hw : zWf w) (hn : n ≤ 12) (hP : w.1 166 33 = nI n) (hk : k < 10) : zEi G mX12_counted [.ref 166, .int (nI k)] w (m_count w n k) w := by
  refine zC_of (lo := [_, _, _, _]) kcX12_counted (Nat.le_of_ble_eq_true rfl) rfl (fun X hX hE => ?_)
  have fin : ∀ v, zk0 G X mX12_counted 126 [.ref 166, .int (nI k), .int (nI (zcnt (mC1 w k) n + zcnt (mC2 w k) 6 + zcnt (mC3 w k) 4)), v] [] w := by
    intro v
    rcases (show k = 0 ∨ k = 1 ∨ k = 2 ∨ k = 3 ∨ k = 4 ∨ k = 5 ∨ k = 6 ∨ k = 7 ∨ k = 8 ∨ k = 9 by omega) with g | g | g | g | g | g | g | g | g | g <;> subst g
    · refine zk_iload_n hX dX12_counted_126 rfl ?_
      refine zk_tableIn hX dX12_counted_127 (by decide) (by decide) (off := 45) (tgt := 172) (by decide +kernel) (by decide) ?_
      refine zk_aload_n hX dX12_counted_172 rfl ?_
      refine zk_getI hX dX12_counted_173 flX12_193 k_166 z_166 ?_
      refine zk_iret hX hE rfl ⟨rfl, rfl⟩ dX12_counted_176 ⟨_, rfl, ?_⟩
      exact ⟨rfl, rfl⟩
    · refine zk_iload_n hX dX12_counted_126 rfl ?_
      refine zk_tableIn hX dX12_counted_127 (by decide) (by decide) (off := 50) (tgt := 177) (by decide +kernel) (by decide) ?_
      refine zk_aload_n hX dX12_counted_177 rfl ?_
      refine zk_getI hX dX12_counted_178 flX12_196 k_166 z_166 ?_
      refine zk_iret hX hE rfl ⟨rfl, rfl⟩ dX12_counted_181 ⟨_, rfl, ?_⟩
      exact ⟨rfl, rfl⟩
    · refine zk_iload_n hX dX12_counted_126 rfl ?_
      refine zk_tableIn hX dX12_counted_127 (by decide) (by decide) (off := 55) (tgt := 182) (by decide +kernel) (by decide) ?_
      refine zk_aload_n hX dX12_counted_182 rfl ?_
      refine zk_getI hX dX12_counted_183 flX12_199 k_166 z_166 ?_
      refine zk_iret hX hE rfl ⟨rfl, rfl⟩ dX12_counted_186 ⟨_, rfl, ?_⟩
      exact ⟨rfl, rfl⟩
    · refine zk_iload_n hX dX12_counted_126 rfl ?_
      refine zk_tableIn hX dX12_counted_127 (by decide) (by decide) (off := 60) (tgt := 187) (by decide +kernel) (by decide) ?_
      refine zk_aload_n hX dX12_counted_187 rfl ?_
      refine zk_getI hX dX12_counted_188 flX12_202 k_166 z_166 ?_
      refine zk_iret hX hE rfl ⟨rfl, rfl⟩ dX12_counted_191 ⟨_, rfl, ?_⟩
      exact ⟨rfl, rfl⟩
    · refine zk_iload_n hX dX12_counted_126 rfl ?_
      refine zk_tableIn hX dX12_counted_127 (by decide) (by decide) (off := 75) (tgt := 202) (by decide +kernel) (by decide) ?_
      refine zk_iload_n hX dX12_counted_202 rfl ?_
      refine zk_iret hX hE rfl ⟨rfl, rfl⟩ dX12_counted_203 ⟨_, rfl, ?_⟩
      exact ⟨rfl, rfl⟩
    · refine zk_iload_n hX dX12_counted_126 rfl ?_
      refine zk_tableIn hX dX12_counted_127 (by decide) (by decide) (off := 75) (tgt := 202) (by decide +kernel) (by decide) ?_
      refine zk_iload_n hX dX12_counted_202 rfl ?_
      refine zk_iret hX hE rfl ⟨rfl, rfl⟩ dX12_counted_203 ⟨_, rfl, ?_⟩
      exact ⟨rfl, rfl⟩
    · refine zk_iload_n hX dX12_counted_126 rfl ?_
      refine zk_tableIn hX dX12_counted_127 (by decide) (by decide) (off := 65) (tgt := 192) (by decide +kernel) (by decide) ?_
      refine zk_aload_n hX dX12_counted_192 rfl ?_
      refine zk_getI hX dX12_counted_193 flX12_381 k_166 z_166 ?_
      refine zk_iret hX hE rfl ⟨rfl, rfl⟩ dX12_counted_196 ⟨_, rfl, ?_⟩
      exact ⟨rfl, rfl⟩
    · refine zk_iload_n hX dX12_counted_126 rfl ?_
      refine zk_tableIn hX dX12_counted_127 (by decide) (by decide) (off := 70) (tgt := 197) (by decide +kernel) (by decide) ?_
      refine zk_aload_n hX dX12_counted_197 rfl ?_
      refine zk_getI hX dX12_counted_198 flX12_205 k_166 z_166 ?_
      refine zk_iret hX hE rfl ⟨rfl, rfl⟩ dX12_counted_201 ⟨_, rfl, ?_⟩
      exact ⟨rfl, rfl⟩
    · refine zk_iload_n hX dX12_counted_126 rfl ?_
      refine zk_tableOut hX dX12_counted_127 (Or.inr (by decide)) (tgt := 202) (by decide) ?_
      refine zk_iload_n hX dX12_counted_202 rfl ?_
      refine zk_iret hX hE rfl ⟨rfl, rfl⟩ dX12_counted_203 ⟨_, rfl, ?_⟩
      exact ⟨rfl, rfl⟩
    · refine zk_iload_n hX dX12_counted_126 rfl ?_
      refine zk_tableOut hX dX12_counted_127 (Or.inr (by decide)) (tgt := 202) (by decide) ?_
      refine zk_iload_n hX dX12_counted_202 rfl ?_
      refine zk_iret hX hE rfl ⟨rfl, rfl⟩ dX12_counted_203 ⟨_, rfl, ?_⟩
      exact ⟨rfl, rfl⟩
  have loop92 : ∀ z i, i + z = 4 → zk0 G X mX12_counted 92 [.ref 166, .int (nI k), .int (nI (zcnt (mC1 w k) n + zcnt (mC2 w k) 6 + zcnt (mC3 w k) i)), .int (nI i)] [] w := by
    intro z
    induction z with
    | zero =>
      intro i hi
      obtain rfl : i = 4 := by omega
      refine zk_iload_n hX dX12_counted_92 rfl ?_
      refine zk_iconst (v := 4) hX dX12_counted_93 (by decide) ?_
      refine zk_icmp_ge (tgt := 126) hX dX12_counted_94 (by decide) (fun c94 => ?_) (fun c94 => ?_)
      rotate_left
      · exact absurd (by decide) c94
      exact fin _
    | succ z ih =>
      intro i hi
      have h0 := ih (i + 1) (by omega)
      rw [zcnt_s (P := mC3 w k) (i := i)] at h0
      refine zk_iload_n hX dX12_counted_92 rfl ?_
      refine zk_iconst (v := 4) hX dX12_counted_93 (by decide) ?_
      refine zk_icmp_ge (tgt := 126) hX dX12_counted_94 (by decide) (fun c94 => ?_) (fun c94 => ?_)
      · exact absurd c94 (nI_ge (b := 4) (by omega) (by decide))
      refine zk_iload_n hX dX12_counted_97 rfl ?_
      refine zk_iload_n hX dX12_counted_98 rfl ?_
      refine zk_bipush (v := 9) hX dX12_counted_99 (by decide) ?_
      refine zk_icmp_ne (tgt := 117) hX dX12_counted_101 (by decide) (fun c101 => ?_) (fun c101 => ?_)
      · refine zk_iconst (v := 0) hX dX12_counted_117 (by decide) ?_
        refine zk_iadd hX dX12_counted_118 ?_
        refine zk_istore_n (lo' := [_, _, _, _]) hX dX12_counted_119 (Nat.le_of_ble_eq_true rfl) rfl rfl ?_
        refine zk_iinc (lo' := [_, _, _, _]) hX dX12_counted_120 rfl (by first | exact zinc _ | exact rfl) (Nat.le_of_ble_eq_true rfl) rfl rfl ?_
        refine zk_goto (tgt := 92) hX dX12_counted_123 (by decide) ?_
        first
        | (rw [if_pos (show mC3 w k i = true from decide_eq_true (by first | exact ⟨c101, Int32.not_lt.mp c110⟩ | exact ⟨Decidable.not_not.mp c101, Int32.not_lt.mp c110⟩)), ← Nat.add_assoc] at h0; rw [nI_1]; exact h0)
        | (rw [if_neg (show ¬ mC3 w k i = true from fun q => by have q := of_decide_eq_true q; first | exact c101 q.1 | exact absurd q.2 (Int32.not_le.mpr c110))] at h0; rw [Int32.add_zero]; exact h0)
      · refine zk_aload_n hX dX12_counted_104 rfl ?_
        refine zk_getR hX dX12_counted_105 flX12_22 k_166 z_166 (hw _ _ (by decide) |>.trans r_166_8) ?_
        refine zk_iload_n hX dX12_counted_108 rfl ?_
        refine zk_ialdE hX dX12_counted_109 rfl k_171 z_171 (by first | assumption | omega) rfl ?_
        refine zk_if_lt (tgt := 117) hX dX12_counted_110 (by decide) (fun c110 => ?_) (fun c110 => ?_)
        · refine zk_iconst (v := 0) hX dX12_counted_117 (by decide) ?_
          refine zk_iadd hX dX12_counted_118 ?_
          refine zk_istore_n (lo' := [_, _, _, _]) hX dX12_counted_119 (Nat.le_of_ble_eq_true rfl) rfl rfl ?_
          refine zk_iinc (lo' := [_, _, _, _]) hX dX12_counted_120 rfl (by first | exact zinc _ | exact rfl) (Nat.le_of_ble_eq_true rfl) rfl rfl ?_
          refine zk_goto (tgt := 92) hX dX12_counted_123 (by decide) ?_
          first
          | (rw [if_pos (show mC3 w k i = true from decide_eq_true (by first | exact ⟨c101, Int32.not_lt.mp c110⟩ | exact ⟨Decidable.not_not.mp c101, Int32.not_lt.mp c110⟩)), ← Nat.add_assoc] at h0; rw [nI_1]; exact h0)
          | (rw [if_neg (show ¬ mC3 w k i = true from fun q => by have q := of_decide_eq_true q; first | exact c101 q.1 | exact absurd q.2 (Int32.not_le.mpr c110))] at h0; rw [Int32.add_zero]; exact h0)
        · refine zk_iconst (v := 1) hX dX12_counted_113 (by decide) ?_
          refine zk_goto (tgt := 118) hX dX12_counted_114 (by decide) ?_
          refine zk_iadd hX dX12_counted_118 ?_
          refine zk_istore_n (lo' := [_, _, _, _]) hX dX12_counted_119 (Nat.le_of_ble_eq_true rfl) rfl rfl ?_
          refine zk_iinc (lo' := [_, _, _, _]) hX dX12_counted_120 rfl (by first | exact zinc _ | exact rfl) (Nat.le_of_ble_eq_true rfl) rfl rfl ?_
          refine zk_goto (tgt := 92) hX dX12_counted_123 (by decide) ?_
          first
          | (rw [if_pos (show mC3 w k i = true from decide_eq_true (by first | exact ⟨c101, Int32.not_lt.mp c110⟩ | exact ⟨Decidable.not_not.mp c101, Int32.not_lt.mp c110⟩)), ← Nat.add_assoc] at h0; rw [nI_1]; exact h0)
          | (rw [if_neg (show ¬ mC3 w k i = true from fun q => by have q := of_decide_eq_true q; first | exact c101 q.1 | exact absurd q.2 (Int32.not_le.mpr c110))] at h0; rw [Int32.add_zero]; exact h0)
  have loop41 : ∀ z i, i + z = 6 → zk0 G X mX12_counted 41 [.ref 166, .int (nI k), .int (nI (zcnt (mC1 w k) n + zcnt (mC2 w k) i)), .int (nI i)] [] w := by
    intro z
    induction z with
    | zero =>
      intro i hi
      obtain rfl : i = 6 := by omega
      refine zk_iload_n hX dX12_counted_41 rfl ?_
      refine zk_bipush (v := 6) hX dX12_counted_42 (by decide) ?_
      refine zk_icmp_ge (tgt := 90) hX dX12_counted_44 (by decide) (fun c44 => ?_) (fun c44 => ?_)
      rotate_left
      · exact absurd (by decide) c44
      refine zk_iconst (v := 0) hX dX12_counted_90 (by decide) ?_
      refine zk_istore_n (lo' := [_, _, _, _]) hX dX12_counted_91 (Nat.le_of_ble_eq_true rfl) rfl rfl ?_
      exact loop92 4 0 (by omega)
    | succ z ih =>
      intro i hi
      have h0 := ih (i + 1) (by omega)
      rw [zcnt_s (P := mC2 w k) (i := i)] at h0
      refine zk_iload_n hX dX12_counted_41 rfl ?_
      refine zk_bipush (v := 6) hX dX12_counted_42 (by decide) ?_
      refine zk_icmp_ge (tgt := 90) hX dX12_counted_44 (by decide) (fun c44 => ?_) (fun c44 => ?_)
      · exact absurd c44 (nI_ge (b := 6) (by omega) (by decide))
      refine zk_iload_n hX dX12_counted_47 rfl ?_
      refine zk_iload_n hX dX12_counted_48 rfl ?_
      refine zk_iconst (v := 5) hX dX12_counted_49 (by decide) ?_
      refine zk_icmp_ne (tgt := 62) hX dX12_counted_50 (by decide) (fun c50 => ?_) (fun c50 => ?_)
      · refine zk_iload_n hX dX12_counted_62 rfl ?_
        refine zk_bipush (v := 8) hX dX12_counted_63 (by decide) ?_
        refine zk_icmp_ne (tgt := 81) hX dX12_counted_65 (by decide) (fun c65 => ?_) (fun c65 => ?_)
        · refine zk_iconst (v := 0) hX dX12_counted_81 (by decide) ?_
          refine zk_iadd hX dX12_counted_82 ?_
          refine zk_istore_n (lo' := [_, _, _, _]) hX dX12_counted_83 (Nat.le_of_ble_eq_true rfl) rfl rfl ?_
          refine zk_iinc (lo' := [_, _, _, _]) hX dX12_counted_84 rfl (by first | exact zinc _ | exact rfl) (Nat.le_of_ble_eq_true rfl) rfl rfl ?_
          refine zk_goto (tgt := 41) hX dX12_counted_87 (by decide) ?_
          first
          | (rw [if_pos (show mC2 w k i = true from decide_eq_true (by first | exact Or.inl ⟨c50, c59⟩ | exact Or.inr ⟨c65, Int32.not_lt.mp c74⟩)), ← Nat.add_assoc] at h0; rw [nI_1]; exact h0)
          | (rw [if_neg (show ¬ mC2 w k i = true from fun q => by have q := of_decide_eq_true q; rcases q with q | q <;> first | exact c50 q.1 | exact q.2 c59 | exact c65 q.1 | exact absurd q.2 (Int32.not_le.mpr c74))] at h0; rw [Int32.add_zero]; exact h0)
        · refine zk_aload_n hX dX12_counted_68 rfl ?_
          refine zk_getR hX dX12_counted_69 flX12_13 k_166 z_166 (hw _ _ (by decide) |>.trans r_166_5) ?_
          refine zk_iload_n hX dX12_counted_72 rfl ?_
          refine zk_ialdE hX dX12_counted_73 rfl k_168 z_168 (by first | assumption | omega) rfl ?_
          refine zk_if_lt (tgt := 81) hX dX12_counted_74 (by decide) (fun c74 => ?_) (fun c74 => ?_)
          · refine zk_iconst (v := 0) hX dX12_counted_81 (by decide) ?_
            refine zk_iadd hX dX12_counted_82 ?_
            refine zk_istore_n (lo' := [_, _, _, _]) hX dX12_counted_83 (Nat.le_of_ble_eq_true rfl) rfl rfl ?_
            refine zk_iinc (lo' := [_, _, _, _]) hX dX12_counted_84 rfl (by first | exact zinc _ | exact rfl) (Nat.le_of_ble_eq_true rfl) rfl rfl ?_
            refine zk_goto (tgt := 41) hX dX12_counted_87 (by decide) ?_
            first
            | (rw [if_pos (show mC2 w k i = true from decide_eq_true (by first | exact Or.inl ⟨c50, c59⟩ | exact Or.inr ⟨c65, Int32.not_lt.mp c74⟩)), ← Nat.add_assoc] at h0; rw [nI_1]; exact h0)
            | (rw [if_neg (show ¬ mC2 w k i = true from fun q => by have q := of_decide_eq_true q; rcases q with q | q <;> first | exact c50 q.1 | exact q.2 c59 | exact c65 q.1 | exact absurd q.2 (Int32.not_le.mpr c74))] at h0; rw [Int32.add_zero]; exact h0)
          · refine zk_iconst (v := 1) hX dX12_counted_77 (by decide) ?_
            refine zk_goto (tgt := 82) hX dX12_counted_78 (by decide) ?_
            refine zk_iadd hX dX12_counted_82 ?_
            refine zk_istore_n (lo' := [_, _, _, _]) hX dX12_counted_83 (Nat.le_of_ble_eq_true rfl) rfl rfl ?_
            refine zk_iinc (lo' := [_, _, _, _]) hX dX12_counted_84 rfl (by first | exact zinc _ | exact rfl) (Nat.le_of_ble_eq_true rfl) rfl rfl ?_
            refine zk_goto (tgt := 41) hX dX12_counted_87 (by decide) ?_
            first
            | (rw [if_pos (show mC2 w k i = true from decide_eq_true (by first | exact Or.inl ⟨c50, c59⟩ | exact Or.inr ⟨c65, Int32.not_lt.mp c74⟩)), ← Nat.add_assoc] at h0; rw [nI_1]; exact h0)
            | (rw [if_neg (show ¬ mC2 w k i = true from fun q => by have q := of_decide_eq_true q; rcases q with q | q <;> first | exact c50 q.1 | exact q.2 c59 | exact c65 q.1 | exact absurd q.2 (Int32.not_le.mpr c74))] at h0; rw [Int32.add_zero]; exact h0)
      · refine zk_aload_n hX dX12_counted_53 rfl ?_
        refine zk_getR hX dX12_counted_54 flX12_68 k_166 z_166 (hw _ _ (by decide) |>.trans r_166_37) ?_
        refine zk_iload_n hX dX12_counted_57 rfl ?_
        refine zk_zaldE hX dX12_counted_58 rfl k_186 z_186 (by first | assumption | omega) rfl ?_
        refine zk_if_ne (tgt := 77) hX dX12_counted_59 (by decide) (fun c59 => ?_) (fun c59 => ?_)
        · refine zk_iconst (v := 1) hX dX12_counted_77 (by decide) ?_
          refine zk_goto (tgt := 82) hX dX12_counted_78 (by decide) ?_
          refine zk_iadd hX dX12_counted_82 ?_
          refine zk_istore_n (lo' := [_, _, _, _]) hX dX12_counted_83 (Nat.le_of_ble_eq_true rfl) rfl rfl ?_
          refine zk_iinc (lo' := [_, _, _, _]) hX dX12_counted_84 rfl (by first | exact zinc _ | exact rfl) (Nat.le_of_ble_eq_true rfl) rfl rfl ?_
          refine zk_goto (tgt := 41) hX dX12_counted_87 (by decide) ?_
          first
          | (rw [if_pos (show mC2 w k i = true from decide_eq_true (by first | exact Or.inl ⟨c50, c59⟩ | exact Or.inr ⟨c65, Int32.not_lt.mp c74⟩)), ← Nat.add_assoc] at h0; rw [nI_1]; exact h0)
          | (rw [if_neg (show ¬ mC2 w k i = true from fun q => by have q := of_decide_eq_true q; rcases q with q | q <;> first | exact c50 q.1 | exact q.2 c59 | exact c65 q.1 | exact absurd q.2 (Int32.not_le.mpr c74))] at h0; rw [Int32.add_zero]; exact h0)
        · refine zk_iload_n hX dX12_counted_62 rfl ?_
          refine zk_bipush (v := 8) hX dX12_counted_63 (by decide) ?_
          refine zk_icmp_ne (tgt := 81) hX dX12_counted_65 (by decide) (fun c65 => ?_) (fun c65 => ?_)
          · refine zk_iconst (v := 0) hX dX12_counted_81 (by decide) ?_
            refine zk_iadd hX dX12_counted_82 ?_
            refine zk_istore_n (lo' := [_, _, _, _]) hX dX12_counted_83 (Nat.le_of_ble_eq_true rfl) rfl rfl ?_
            refine zk_iinc (lo' := [_, _, _, _]) hX dX12_counted_84 rfl (by first | exact zinc _ | exact rfl) (Nat.le_of_ble_eq_true rfl) rfl rfl ?_
            refine zk_goto (tgt := 41) hX dX12_counted_87 (by decide) ?_
            first
            | (rw [if_pos (show mC2 w k i = true from decide_eq_true (by first | exact Or.inl ⟨c50, c59⟩ | exact Or.inr ⟨c65, Int32.not_lt.mp c74⟩)), ← Nat.add_assoc] at h0; rw [nI_1]; exact h0)
            | (rw [if_neg (show ¬ mC2 w k i = true from fun q => by have q := of_decide_eq_true q; rcases q with q | q <;> first | exact c50 q.1 | exact q.2 c59 | exact c65 q.1 | exact absurd q.2 (Int32.not_le.mpr c74))] at h0; rw [Int32.add_zero]; exact h0)
          · refine zk_aload_n hX dX12_counted_68 rfl ?_
            refine zk_getR hX dX12_counted_69 flX12_13 k_166 z_166 (hw _ _ (by decide) |>.trans r_166_5) ?_
            refine zk_iload_n hX dX12_counted_72 rfl ?_
            refine zk_ialdE hX dX12_counted_73 rfl k_168 z_168 (by first | assumption | omega) rfl ?_
            refine zk_if_lt (tgt := 81) hX dX12_counted_74 (by decide) (fun c74 => ?_) (fun c74 => ?_)
            · refine zk_iconst (v := 0) hX dX12_counted_81 (by decide) ?_
              refine zk_iadd hX dX12_counted_82 ?_
              refine zk_istore_n (lo' := [_, _, _, _]) hX dX12_counted_83 (Nat.le_of_ble_eq_true rfl) rfl rfl ?_
              refine zk_iinc (lo' := [_, _, _, _]) hX dX12_counted_84 rfl (by first | exact zinc _ | exact rfl) (Nat.le_of_ble_eq_true rfl) rfl rfl ?_
              refine zk_goto (tgt := 41) hX dX12_counted_87 (by decide) ?_
              first
              | (rw [if_pos (show mC2 w k i = true from decide_eq_true (by first | exact Or.inl ⟨c50, c59⟩ | exact Or.inr ⟨c65, Int32.not_lt.mp c74⟩)), ← Nat.add_assoc] at h0; rw [nI_1]; exact h0)
              | (rw [if_neg (show ¬ mC2 w k i = true from fun q => by have q := of_decide_eq_true q; rcases q with q | q <;> first | exact c50 q.1 | exact q.2 c59 | exact c65 q.1 | exact absurd q.2 (Int32.not_le.mpr c74))] at h0; rw [Int32.add_zero]; exact h0)
            · refine zk_iconst (v := 1) hX dX12_counted_77 (by decide) ?_
              refine zk_goto (tgt := 82) hX dX12_counted_78 (by decide) ?_
              refine zk_iadd hX dX12_counted_82 ?_
              refine zk_istore_n (lo' := [_, _, _, _]) hX dX12_counted_83 (Nat.le_of_ble_eq_true rfl) rfl rfl ?_
              refine zk_iinc (lo' := [_, _, _, _]) hX dX12_counted_84 rfl (by first | exact zinc _ | exact rfl) (Nat.le_of_ble_eq_true rfl) rfl rfl ?_
              refine zk_goto (tgt := 41) hX dX12_counted_87 (by decide) ?_
              first
              | (rw [if_pos (show mC2 w k i = true from decide_eq_true (by first | exact Or.inl ⟨c50, c59⟩ | exact Or.inr ⟨c65, Int32.not_lt.mp c74⟩)), ← Nat.add_assoc] at h0; rw [nI_1]; exact h0)
              | (rw [if_neg (show ¬ mC2 w k i = true from fun q => by have q := of_decide_eq_true q; rcases q with q | q <;> first | exact c50 q.1 | exact q.2 c59 | exact c65 q.1 | exact absurd q.2 (Int32.not_le.mpr c74))] at h0; rw [Int32.add_zero]; exact h0)
  have loop4 : ∀ z i, i + z = n → zk0 G X mX12_counted 4 [.ref 166, .int (nI k), .int (nI (zcnt (mC1 w k) i)), .int (nI i)] [] w := by
    intro z
    induction z with
    | zero =>
      intro i hi
      obtain rfl : i = n := by omega
      refine zk_iload_n hX dX12_counted_4 rfl ?_
      refine zk_aload_n hX dX12_counted_5 rfl ?_
      refine zk_getI hX dX12_counted_6 flX12_202 k_166 z_166 ?_
      rw [hP]
      refine zk_icmp_ge (tgt := 39) hX dX12_counted_9 (by decide) (fun c9 => ?_) (fun c9 => ?_)
      rotate_left
      · exact absurd (nI_le (Nat.le_refl _) (by omega)) c9
      refine zk_iconst (v := 0) hX dX12_counted_39 (by decide) ?_
      refine zk_istore_n (lo' := [_, _, _, _]) hX dX12_counted_40 (Nat.le_of_ble_eq_true rfl) rfl rfl ?_
      exact loop41 6 0 (by omega)
    | succ z ih =>
      intro i hi
      have h0 := ih (i + 1) (by omega)
      rw [zcnt_s (P := mC1 w k) (i := i)] at h0
      refine zk_iload_n hX dX12_counted_4 rfl ?_
      refine zk_aload_n hX dX12_counted_5 rfl ?_
      refine zk_getI hX dX12_counted_6 flX12_202 k_166 z_166 ?_
      rw [hP]
      refine zk_icmp_ge (tgt := 39) hX dX12_counted_9 (by decide) (fun c9 => ?_) (fun c9 => ?_)
      · exact absurd c9 (nI_ge (by omega) (by omega))
      refine zk_iload_n hX dX12_counted_12 rfl ?_
      refine zk_iload_n hX dX12_counted_13 rfl ?_
      refine zk_iconst (v := 4) hX dX12_counted_14 (by decide) ?_
      refine zk_icmp_ne (tgt := 30) hX dX12_counted_15 (by decide) (fun c15 => ?_) (fun c15 => ?_)
      · refine zk_iconst (v := 0) hX dX12_counted_30 (by decide) ?_
        refine zk_iadd hX dX12_counted_31 ?_
        refine zk_istore_n (lo' := [_, _, _, _]) hX dX12_counted_32 (Nat.le_of_ble_eq_true rfl) rfl rfl ?_
        refine zk_iinc (lo' := [_, _, _, _]) hX dX12_counted_33 rfl (by first | exact zinc _ | exact rfl) (Nat.le_of_ble_eq_true rfl) rfl rfl ?_
        refine zk_goto (tgt := 4) hX dX12_counted_36 (by decide) ?_
        first
        | (rw [if_pos (show mC1 w k i = true from decide_eq_true (by first | exact ⟨c15, c23⟩ | exact ⟨c15, Decidable.not_not.mp c23⟩))] at h0; rw [nI_1]; exact h0)
        | (rw [if_neg (show ¬ mC1 w k i = true from fun q => by have q := of_decide_eq_true q; first | exact c15 q.1 | exact c23 q.2)] at h0; rw [Int32.add_zero]; exact h0)
      · refine zk_aload_n hX dX12_counted_18 rfl ?_
        refine zk_iload_n hX dX12_counted_19 rfl ?_
        refine zk_V1i hX dX12_counted_20 kcX12_isHeldPose mlX12_293 viX12_isHeldPose rfl k_166 z_166 (s_X12_isHeldPose hw (by omega)) (Nat.le_of_ble_eq_true rfl) rfl ?_
        refine zk_if_eqB (tgt := 30) hX dX12_counted_23 (by decide) (fun c23 => ?_) (fun c23 => ?_)
        · refine zk_iconst (v := 0) hX dX12_counted_30 (by decide) ?_
          refine zk_iadd hX dX12_counted_31 ?_
          refine zk_istore_n (lo' := [_, _, _, _]) hX dX12_counted_32 (Nat.le_of_ble_eq_true rfl) rfl rfl ?_
          refine zk_iinc (lo' := [_, _, _, _]) hX dX12_counted_33 rfl (by first | exact zinc _ | exact rfl) (Nat.le_of_ble_eq_true rfl) rfl rfl ?_
          refine zk_goto (tgt := 4) hX dX12_counted_36 (by decide) ?_
          first
          | (rw [if_pos (show mC1 w k i = true from decide_eq_true (by first | exact ⟨c15, c23⟩ | exact ⟨c15, Decidable.not_not.mp c23⟩))] at h0; rw [nI_1]; exact h0)
          | (rw [if_neg (show ¬ mC1 w k i = true from fun q => by have q := of_decide_eq_true q; first | exact c15 q.1 | exact c23 q.2)] at h0; rw [Int32.add_zero]; exact h0)
        · refine zk_iconst (v := 1) hX dX12_counted_26 (by decide) ?_
          refine zk_goto (tgt := 31) hX dX12_counted_27 (by decide) ?_
          refine zk_iadd hX dX12_counted_31 ?_
          refine zk_istore_n (lo' := [_, _, _, _]) hX dX12_counted_32 (Nat.le_of_ble_eq_true rfl) rfl rfl ?_
          refine zk_iinc (lo' := [_, _, _, _]) hX dX12_counted_33 rfl (by first | exact zinc _ | exact rfl) (Nat.le_of_ble_eq_true rfl) rfl rfl ?_
          refine zk_goto (tgt := 4) hX dX12_counted_36 (by decide) ?_
          first
          | (rw [if_pos (show mC1 w k i = true from decide_eq_true (by first | exact ⟨c15, c23⟩ | exact ⟨c15, Decidable.not_not.mp c23⟩))] at h0; rw [nI_1]; exact h0)
          | (rw [if_neg (show ¬ mC1 w k i = true from fun q => by have q := of_decide_eq_true q; first | exact c15 q.1 | exact c23 q.2)] at h0; rw [Int32.add_zero]; exact h0)
  refine zk_iconst (v := 0) hX dX12_counted_0 (by decide) ?_
  refine zk_istore_n (lo' := [_, _, _, _]) hX dX12_counted_1 (Nat.le_of_ble_eq_true rfl) rfl rfl ?_
  refine zk_iconst (v := 0) hX dX12_counted_2 (by decide) ?_
  refine zk_istore_n (lo' := [_, _, _, _]) hX dX12_counted_3 (Nat.le_of_ble_eq_true rfl) rfl rfl ?_
  exact loop4 n 0 (by omega)
