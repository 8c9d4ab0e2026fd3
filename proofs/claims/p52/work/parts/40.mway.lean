theorem ffar_r {F : Nat → Option Nat} {O : Nat → Bool} {v : Nat} (hm : ∀ m, F v = some m → m < 5000) : (ffar F O v < 0 ∧ F v = none) ∨ ∃ m, F v = some m ∧ ffar F O v = nI m ∧ ¬ nI m < 0 := by
  unfold ffar
  cases e : F v with
  | none =>
    refine Or.inl ⟨?_, rfl⟩
    show (if O v = true then (-1 : Int32) else -2) < 0
    split <;> decide
  | some m =>
    have := hm m e
    exact Or.inr ⟨m, rfl, rfl, nI_pos (by omega)⟩
theorem s_X10_length {G : zG} {w : zW} {D : zD} {O : Nat → Bool} {p q : Nat} (hw : zWf w) (hD : zDok D) (hH : cHd w 26 D) (hSt : cStep w D) (hN : zpr (zsp D) (dJ D) ≤ 4096) (hO : ∀ v, v < 4096 → w.1 148 v = if O v = true then -1 else -2) (hON : ∀ v, O v = true → v < zpr (zsp D) (dJ D)) (hp : p < 4096) (hq : q < 4096) :
    zCi G mX10_length [.ref 147, .ref 131, .ref 26, .int (nI p), .int (nI q)] w (fun r w' => zFr [147, 148, 149] [] [] w w' ∧ ((O p = false ∧ r = -9) ∨ (O p = true ∧ ∃ res, r = zoe res ∧ zDs (zadj (zsp D) (dJ D)) O p q res))) := by
  refine zC_of (lo := [_, _, _, _, _]) kcX10_length (Nat.le_of_ble_eq_true rfl) rfl (fun X hX hE => ?_)
  refine zk_aload_n hX dX10_length_0 rfl ?_
  refine zk_aload_n hX dX10_length_1 rfl ?_
  refine zk_aload_n hX dX10_length_2 rfl ?_
  refine zk_iload_n hX dX10_length_3 rfl ?_
  refine zk_iload hX dX10_length_4 rfl ?_
  refine zk_V4vp hX dX10_length_6 kcX10_walk mlX10_45 viX10_walk rfl k_147 z_147 (s_X10_walk hw hD hH hSt hN hO hON hp (Or.inr ⟨q, rfl, hq⟩)) (Nat.le_of_ble_eq_true rfl) rfl (fun w1 q1 => ?_)
  have hw1 := zFr_wf q1.1 hw
  refine zk_aload_n hX dX10_length_9 rfl ?_
  refine zk_iload hX dX10_length_10 rfl ?_
  refine zk_V1i hX dX10_length_12 kcX10_farOf mlX10_49 viX10_farOf rfl k_147 z_147 (s_X10_farOf hw1 hq) (Nat.le_of_ble_eq_true rfl) rfl ?_
  refine zk_if_ge (tgt := 23) hX dX10_length_15 (by decide) (fun c15 => ?_) (fun c15 => ?_)
  · refine zk_aload_n hX dX10_length_23 rfl ?_
    refine zk_iload hX dX10_length_24 rfl ?_
    refine zk_V1i hX dX10_length_26 kcX10_farOf mlX10_49 viX10_farOf rfl k_147 z_147 (s_X10_farOf hw1 hq) (Nat.le_of_ble_eq_true rfl) rfl ?_
    refine zk_iret hX hE rfl ⟨rfl, rfl⟩ dX10_length_29 ⟨_, rfl, ?_⟩
    refine ⟨q1.1, ?_⟩
    rcases q1.2.2 with ⟨h1, h2⟩ | ⟨h1, F, Q, n, h, b1, b2, b3⟩
    · refine Or.inl ⟨h1, ?_⟩
      first
        | rfl
        | (rw [h2 q hq] at c15
           exfalso
           by_cases z : O q = true
           · rw [if_pos z] at c15
             exact absurd c15 (by decide)
           · rw [if_neg z] at c15
             exact absurd c15 (by decide))
    · refine Or.inr ⟨h1, F q, ?_, zBI_far b1 (b3.imp_right (fun z => by
        obtain ⟨b, e1, e2, e3⟩ := z
        rw [show q = b from (nI_eq (by omega) (by omega)).mp e1]
        exact e3))⟩
      have e0 := b2.1 q hq
      rcases ffar_r (F := F) (O := O) (v := q) (fun m e => by
        have hm := (b1.2.2.2.2.1 q m e).2
        have hn : n ≤ 4096 := by rw [b1.1.1]; exact Nat.le_trans (zcnt_le _ _) hN
        omega) with ⟨e1, e2⟩ | ⟨m, e1, e2, e3⟩
      · rw [e2]
        first
          | rfl
          | (exfalso
             rw [e0] at c15
             exact absurd c15 (Int32.not_le.mpr e1))
      · rw [e1]
        first
          | exact e0.trans e2
          | (exfalso
             rw [e0, e2] at c15
             exact absurd (Int32.not_lt.mp e3) c15)
  · refine zk_bipush (v := -9) hX dX10_length_18 (by decide) ?_
    refine zk_goto (tgt := 29) hX dX10_length_20 (by decide) ?_
    refine zk_iret hX hE rfl ⟨rfl, rfl⟩ dX10_length_29 ⟨_, rfl, ?_⟩
    refine ⟨q1.1, ?_⟩
    rcases q1.2.2 with ⟨h1, h2⟩ | ⟨h1, F, Q, n, h, b1, b2, b3⟩
    · refine Or.inl ⟨h1, ?_⟩
      first
        | rfl
        | (rw [h2 q hq] at c15
           exfalso
           by_cases z : O q = true
           · rw [if_pos z] at c15
             exact absurd c15 (by decide)
           · rw [if_neg z] at c15
             exact absurd c15 (by decide))
    · refine Or.inr ⟨h1, F q, ?_, zBI_far b1 (b3.imp_right (fun z => by
        obtain ⟨b, e1, e2, e3⟩ := z
        rw [show q = b from (nI_eq (by omega) (by omega)).mp e1]
        exact e3))⟩
      have e0 := b2.1 q hq
      rcases ffar_r (F := F) (O := O) (v := q) (fun m e => by
        have hm := (b1.2.2.2.2.1 q m e).2
        have hn : n ≤ 4096 := by rw [b1.1.1]; exact Nat.le_trans (zcnt_le _ _) hN
        omega) with ⟨e1, e2⟩ | ⟨m, e1, e2, e3⟩
      · rw [e2]
        first
          | rfl
          | (exfalso
             rw [e0] at c15
             exact absurd c15 (Int32.not_le.mpr e1))
      · rw [e1]
        first
          | exact e0.trans e2
          | (exfalso
             rw [e0, e2] at c15
             exact absurd (Int32.not_lt.mp e3) c15)
