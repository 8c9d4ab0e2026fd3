theorem s_X12_count_bad {G : zG} {w : zW} (k : Int32) (h : ¬ (0 ≤ k ∧ k < 10)) : zEi G mX12_count [.ref 166, .int k] w (-1) w := by
  refine zC_of (lo := [_, _]) kcX12_count (Nat.le_of_ble_eq_true rfl) rfl (fun X hX hE => ?_)
  refine zk_iload_n hX dX12_count_0 rfl ?_
  refine zk_iconst (v := 0) hX dX12_count_1 (by decide) ?_
  refine zk_bipush (v := 9) hX dX12_count_2 (by decide) ?_
  refine zk_S3i hX dX12_count_4 kcX12_in mlX12_131 smX12_in rfl (s_X12_in _ _ _) (Nat.le_of_ble_eq_true rfl) rfl ?_
  refine zk_if_eqB (tgt := 18) hX dX12_count_7 (by decide) (fun c7 => ?_) (fun c7 => ?_)
  rotate_left
  · exact absurd ⟨c7.1, by grind⟩ h
  refine zk_iconst (v := -1) hX dX12_count_18 (by decide) ?_
  refine zk_iret hX hE rfl ⟨rfl, rfl⟩ dX12_count_19 ⟨_, rfl, ?_⟩
  exact ⟨rfl, rfl⟩
theorem s_X12_count {G : zG} {w : zW} {n k : Nat} (hw : zWf w) (hn : n ≤ 12) (hP : w.1 166 33 = nI n) (hk : k < 10) : zEi G mX12_count [.ref 166, .int (nI k)] w (m_count w n k) w := by
  refine zC_of (lo := [_, _]) kcX12_count (Nat.le_of_ble_eq_true rfl) rfl (fun X hX hE => ?_)
  refine zk_iload_n hX dX12_count_0 rfl ?_
  refine zk_iconst (v := 0) hX dX12_count_1 (by decide) ?_
  refine zk_bipush (v := 9) hX dX12_count_2 (by decide) ?_
  refine zk_S3i hX dX12_count_4 kcX12_in mlX12_131 smX12_in rfl (s_X12_in _ _ _) (Nat.le_of_ble_eq_true rfl) rfl ?_
  refine zk_if_eqB (tgt := 18) hX dX12_count_7 (by decide) (fun c7 => ?_) (fun c7 => ?_)
  · exact absurd c7 (not_not_intro (zrle (n := 9) (by omega)))
  refine zk_aload_n hX dX12_count_10 rfl ?_
  refine zk_iload_n hX dX12_count_11 rfl ?_
  refine zk_V1i hX dX12_count_12 kcX12_counted mlX12_401 viX12_counted rfl k_166 z_166 (s_X12_counted hw hn hP hk) (Nat.le_of_ble_eq_true rfl) rfl ?_
  refine zk_goto (tgt := 19) hX dX12_count_15 (by decide) ?_
  refine zk_iret hX hE rfl ⟨rfl, rfl⟩ dX12_count_19 ⟨_, rfl, ?_⟩
  exact ⟨rfl, rfl⟩
theorem zcnt_no {P : Nat → Bool} {n : Nat} (h : ∀ i, i < n → ¬ P i = true) : zcnt P n = 0 := zcnt_0.mpr h
theorem zO_count {G : zG} (k : Int32) : zOi G mX11_count mX12_count [.int k] := by
  intro w h
  have h0 := h
  obtain ⟨hw, hT, hR, hX, hB, D, z, u, v, T, n, nl, c, hH, hL, hS, hP, hK⟩ := h
  by_cases hk0 : 0 ≤ k ∧ k < 10
  · obtain ⟨k, hk, rfl⟩ := rn (n := 10) (by decide) hk0
    refine zOe (s_X11_count hw hP.1 hP.2.1 hk) (s_X12_count hw hP.1 hP.2.2.1 hk) ?_ h0
    have e1 : zcnt (cHeld w) n = zcnt (mC1 w 4) n := zcnt_c (fun p hp => by
      unfold cHeld mC1
      rw [(hP.2.2.2 p hp).2.2.2.1.1]
      simp only [show (nI 4 = (4 : Int32)) from rfl, true_and])
    have e2 : zcnt (cThere w) 6 = zcnt (mC2 w 5) 6 := zcnt_c (fun p hp => by
      unfold cThere mC2
      rw [(hB p hp).1]
      simp only [show (nI 5 = (5 : Int32)) from rfl, true_and, show ¬ ((5 : Int32) = 8) by decide, false_and, or_false])
    have e3 : zcnt (cRows w) 6 = zcnt (mC2 w 8) 6 := zcnt_c (fun p hp => by
      unfold cRows mC2
      rw [(hR p hp).1]
      simp only [show (nI 8 = (8 : Int32)) from rfl, true_and, show ¬ ((8 : Int32) = 5) by decide, false_and, false_or])
    have e4 : zcnt (cTexts w) 4 = zcnt (mC3 w 9) 4 := zcnt_c (fun p hp => by
      unfold cTexts mC3
      rw [(hX p hp).1]
      simp only [show (nI 9 = (9 : Int32)) from rfl, true_and])
    have z1 : ∀ k, ¬ nI k = 4 → zcnt (mC1 w k) n = 0 := fun k hk => zcnt_no (fun p _ q => hk (of_decide_eq_true q).1)
    have z2 : ∀ k, ¬ nI k = 5 → ¬ nI k = 8 → zcnt (mC2 w k) 6 = 0 := fun k h5 h8 => zcnt_no (fun p _ q => by
      rcases of_decide_eq_true q with q | q
      · exact h5 q.1
      · exact h8 q.1)
    have z3 : ∀ k, ¬ nI k = 9 → zcnt (mC3 w k) 4 = 0 := fun k hk => zcnt_no (fun p _ q => hk (of_decide_eq_true q).1)
    rcases (show k = 0 ∨ k = 1 ∨ k = 2 ∨ k = 3 ∨ k = 4 ∨ k = 5 ∨ k = 6 ∨ k = 7 ∨ k = 8 ∨ k = 9 by omega) with g | g | g | g | g | g | g | g | g | g <;> subst g
    · exact hH.2.2.1.1.1.trans hH.2.1.1.1.symm
    · exact hH.2.2.1.1.2.1.trans hH.2.1.1.2.1.symm
    · exact hH.2.2.1.1.2.2.trans hH.2.1.1.2.2.symm
    · exact hP.2.2.1.trans hP.2.1.symm
    · show nI (zcnt (mC1 w 4) n + zcnt (mC2 w 4) 6 + zcnt (mC3 w 4) 4) = nI (zcnt (cHeld w) n)
      rw [e1, z2 4 (by decide) (by decide), z3 4 (by decide)]
      rfl
    · show nI (zcnt (mC1 w 5) n + zcnt (mC2 w 5) 6 + zcnt (mC3 w 5) 4) = nI (zcnt (cThere w) 6)
      rw [e2, z1 5 (by decide), z3 5 (by decide), Nat.zero_add]
      rfl
    · exact hK.1.2.2.1.trans hK.1.2.1.symm
    · exact hK.2.2.2.1.trans hK.2.2.1.symm
    · show nI (zcnt (mC1 w 8) n + zcnt (mC2 w 8) 6 + zcnt (mC3 w 8) 4) = nI (zcnt (cRows w) 6)
      rw [e3, z1 8 (by decide), z3 8 (by decide), Nat.zero_add]
      rfl
    · show nI (zcnt (mC1 w 9) n + zcnt (mC2 w 9) 6 + zcnt (mC3 w 9) 4) = nI (zcnt (cTexts w) 4)
      rw [e4, z1 9 (by decide), z2 9 (by decide) (by decide), Nat.zero_add]
  · exact zOe (s_X11_count_bad k hk0) (s_X12_count_bad k hk0) rfl h0
