def cRowW (w : zW) (r n : Nat) (f : Nat → Int32) (w' : zW) : Prop := zFr [4 + 2 * r, 5 + 2 * r] [] [] w w' ∧ w'.1 (4 + 2 * r) 0 = nI n ∧ ∀ i, i < n → w'.1 (5 + 2 * r) i = f i
theorem zfill_fr {A B F : List Nat} {w : zW} {k m : Nat} {v : Int32} (h : k ∈ A) (h2 : k ≠ 166) : zFr A B F w (zfill w k m v) := by
  refine ⟨rfl, fun a h1 _ => ?_, fun _ _ => rfl, fun i _ => ?_⟩
  · funext i
    exact if_neg (fun (q : a = k ∧ i < m) => h1 (q.1.symm ▸ h))
  · exact if_neg (fun (q : 166 = k ∧ i < m) => h2 q.1.symm)
theorem s_X8_showCells {G : zG} {w : zW} {r k : Nat} {S : zS} (hw : zWf w) (hr : r < 6) (hC : zCe k) (hS : zHas w k S) : zCv G mX8_showCells [.ref (4 + 2 * r), .ref k] w (fun w' => cRowW w r 10 (fun y => nI (zline S y)) w') := by
  have hA := zRwR hr
  refine zC_of (lo := [_, _, _]) kcX8_showCells (Nat.le_of_ble_eq_true rfl) rfl (fun X hX hE => ?_)
  have loop : ∀ z i w1, i + z = 10 → zFr [4 + 2 * r, 5 + 2 * r] [] [] w w1 → w1.1 (4 + 2 * r) 0 = nI 10 → (∀ y, y < i → w1.1 (5 + 2 * r) y = nI (zline S y)) → zk0 G X mX8_showCells 9 [.ref (4 + 2 * r), .ref k, .int (nI i)] [] w1 := by
    intro z
    induction z with
    | zero =>
      intro i w1 hi hF h1 h2
      obtain rfl : i = 10 := by omega
      refine zk_iload_n hX dX8_showCells_9 rfl ?_
      refine zk_bipush (v := 10) hX dX8_showCells_10 (by decide) ?_
      refine zk_icmp_ge (tgt := 31) hX dX8_showCells_12 (by decide) (fun c12 => ?_) (fun c12 => ?_)
      rotate_left
      · exact absurd (by decide) c12
      refine zk_vret hX hE rfl ⟨rfl, rfl⟩ dX8_showCells_31 ⟨rfl, ?_⟩
      exact ⟨hF, h1, h2⟩
    | succ z ih =>
      intro i w1 hi hF h1 h2
      have hw1 := zFr_wf hF hw
      have hS1 : zHas w1 k S := zHas_o hS (hF.2.2.1 k (by simp))
      refine zk_iload_n hX dX8_showCells_9 rfl ?_
      refine zk_bipush (v := 10) hX dX8_showCells_10 (by decide) ?_
      refine zk_icmp_ge (tgt := 31) hX dX8_showCells_12 (by decide) (fun c12 => ?_) (fun c12 => ?_)
      · exact absurd c12 (nI_ge (b := 10) (by omega) (by decide))
      refine zk_aload_n hX dX8_showCells_15 rfl ?_
      refine zk_iload_n hX dX8_showCells_16 rfl ?_
      refine zk_aload_n hX dX8_showCells_17 rfl ?_
      refine zk_iload_n hX dX8_showCells_18 rfl ?_
      refine zk_V1i hX dX8_showCells_19 kcX1_line mlX8_47 viX1_line rfl hC.1 hC.2 (s_X1_line hC hS1 (by omega)) (Nat.le_of_ble_eq_true rfl) rfl ?_
      refine zk_V2v hX dX8_showCells_22 kcX8_set mlX8_52 viX8_set rfl (zRw_k0 hA) hA.1.2.1 (s_X8_set hA hw1 (j := i) (m := 10) (by omega) (by decide) h1 _) (Nat.le_of_ble_eq_true rfl) rfl ?_
      refine zk_iinc (lo' := [_, _, _]) hX dX8_showCells_25 rfl (by first | exact zinc _ | exact rfl) (Nat.le_of_ble_eq_true rfl) rfl rfl ?_
      refine zk_goto (tgt := 9) hX dX8_showCells_28 (by decide) ?_
      refine ih (i + 1) _ (by omega) (zFr_t hF (zFr_i (by simp; omega) (by omega))) (by rw [zsi_1, if_neg (by omega)]; exact h1) (fun y hy => ?_)
      rw [zsi_1]
      by_cases q : y = i
      · rw [if_pos ⟨by omega, q⟩, q]
      · rw [if_neg (fun z => q z.2)]
        exact h2 y (by omega)
  refine zk_aload_n hX dX8_showCells_0 rfl ?_
  refine zk_bipush (v := 10) hX dX8_showCells_1 (by decide) ?_
  refine zk_iconst (v := 0) hX dX8_showCells_3 (by decide) ?_
  refine zk_V2v hX dX8_showCells_4 kcX8_renew mlX8_43 viX8_renew rfl (zRw_k0 hA) hA.1.2.1 (s_X8_renew hA hw (m := 10) (by decide) 0) (Nat.le_of_ble_eq_true rfl) rfl ?_
  refine zk_iconst (v := 0) hX dX8_showCells_7 (by decide) ?_
  refine zk_istore_n (lo' := [_, _, _]) hX dX8_showCells_8 (Nat.le_of_ble_eq_true rfl) rfl rfl ?_
  exact loop 10 0 _ (by omega) (zFr_t (zFr_i (by simp) (by omega)) (zfill_fr (by simp; omega) (by omega))) (by rw [zfill_1, if_neg (by omega), zsi_1, if_pos ⟨rfl, rfl⟩]) (fun y hy => absurd hy (by omega))
/-- the set whose lines these are -/
def zofL (f : Nat → Nat) : zS := fun c => (f (c / 12)).testBit (c % 12)
theorem s_X8_showTo {G : zG} {w : zW} {a L k : Nat} {f : Nat → Nat} (hw : zWf w) (hA : zRw a L) (hC : zCe k) (h0 : w.1 a 0 = nI 10) (hf : ∀ y, y < 10 → w.1 (a + 1) y = nI (f y)) : zEv G mX8_showTo [.ref a, .ref k] w (zsetS w k (zofL f)) := by
  have hL : 10 ≤ L := by rcases hA.2 with h | h <;> omega
  have hSz : zSz (w.1 a 0) L := Or.inr ⟨10, hL, h0⟩
  refine zC_of (lo := [_, _, _]) kcX8_showTo (Nat.le_of_ble_eq_true rfl) rfl (fun X hX hE => ?_)
  have loop : ∀ z i, i + z = 10 → zk0 G X mX8_showTo 6 [.ref a, .ref k, .int (nI i)] [] (zsetS w k (fun c => decide (c / 12 < i) && (f (c / 12)).testBit (c % 12))) := by
    intro z
    induction z with
    | zero =>
      intro i hi
      obtain rfl : i = 10 := by omega
      refine zk_iload_n hX dX8_showTo_6 rfl ?_
      refine zk_bipush (v := 10) hX dX8_showTo_7 (by decide) ?_
      refine zk_icmp_ge (tgt := 28) hX dX8_showTo_9 (by decide) (fun c9 => ?_) (fun c9 => ?_)
      rotate_left
      · exact absurd (by decide) c9
      refine zk_vret hX hE rfl ⟨rfl, rfl⟩ dX8_showTo_28 ⟨rfl, ?_⟩
      refine zsetS_c (fun c hc => ?_)
      have q : c / 12 < 10 := by omega
      unfold zofL
      simp [q]
    | succ z ih =>
      intro i hi
      have e1 : ∀ c, c < 120 → zaddl (fun c => decide (c / 12 < i) && (f (c / 12)).testBit (c % 12)) (nI i) (f i) c = (decide (c / 12 < i + 1) && (f (c / 12)).testBit (c % 12)) := by
        intro c hc
        rw [zaddl_nat (by omega) hc]
        rcases Nat.lt_trichotomy (c / 12) i with q | q | q
        · have q1 : c / 12 < i + 1 := by omega
          have q2 : ¬ i = c / 12 := by omega
          simp [q, q1, q2]
        · have q1 : ¬ c / 12 < i := by omega
          subst q
          simp
        · have q1 : ¬ c / 12 < i + 1 := by omega
          have q2 : ¬ i = c / 12 := by omega
          have q3 : ¬ c / 12 < i := by omega
          simp [q1, q2, q3]
      refine zk_iload_n hX dX8_showTo_6 rfl ?_
      refine zk_bipush (v := 10) hX dX8_showTo_7 (by decide) ?_
      refine zk_icmp_ge (tgt := 28) hX dX8_showTo_9 (by decide) (fun c9 => ?_) (fun c9 => ?_)
      · exact absurd c9 (nI_ge (b := 10) (by omega) (by decide))
      refine zk_aload_n hX dX8_showTo_12 rfl ?_
      refine zk_iload_n hX dX8_showTo_13 rfl ?_
      refine zk_aload_n hX dX8_showTo_14 rfl ?_
      refine zk_iload_n hX dX8_showTo_15 rfl ?_
      refine zk_V1i hX dX8_showTo_16 kcX8_get mlX8_39 viX8_get rfl (zRw_k0 hA) hA.1.2.1 (s_X8_get hA (zWf_of hw rfl) (w := zsetS w k _) hSz _) (Nat.le_of_ble_eq_true rfl) rfl ?_
      rw [show zRget (zsetS w k (fun c => decide (c / 12 < i) && (f (c / 12)).testBit (c % 12))) a (nI i) = nI (f i) from (zRget_in (w := w) h0 (by decide) (by omega)).trans (hf i (by omega))]
      refine zk_V2v hX dX8_showTo_19 kcX1_addLine mlX8_58 viX1_addLine rfl hC.1 hC.2 (s_X1_addLine hC zsetS_has _ _) (Nat.le_of_ble_eq_true rfl) rfl ?_
      rw [zsetS_ss, zsetS_c e1]
      refine zk_iinc (lo' := [_, _, _]) hX dX8_showTo_22 rfl (by first | exact zinc _ | exact rfl) (Nat.le_of_ble_eq_true rfl) rfl rfl ?_
      refine zk_goto (tgt := 6) hX dX8_showTo_25 (by decide) ?_
      exact ih (i + 1) (by omega)
  refine zk_aload_n hX dX8_showTo_0 rfl ?_
  refine zk_V0v hX dX8_showTo_1 kcX1_clear mlX8_55 viX1_clear rfl hC.1 hC.2 (s_X1_clear hC) (Nat.le_of_ble_eq_true rfl) rfl ?_
  refine zk_iconst (v := 0) hX dX8_showTo_4 (by decide) ?_
  refine zk_istore_n (lo' := [_, _, _]) hX dX8_showTo_5 (Nat.le_of_ble_eq_true rfl) rfl rfl ?_
  have h9 := loop 10 0 (by omega)
  rw [zsetS_c (T := zno) (fun c _ => by simp [zno])] at h9
  exact h9
/-- the lines of a row are lines of a shadow -/
abbrev zLok (g : Nat → Int32) : Prop := ∀ i, i < 10 → 0 ≤ g i ∧ g i ≤ 4095
def c_shf (w : zW) (r t : Nat) : Int32 := if ¬ (0 ≤ w.1 (4 + 2 * r) 0 ∧ 0 ≤ w.1 (4 + 2 * t) 0) then 1 else if ¬ (w.1 (4 + 2 * r) 0 = 10 ∧ w.1 (4 + 2 * t) 0 = 10) then 5 else if zLok (w.1 (5 + 2 * r)) ∧ zLok (w.1 (5 + 2 * t)) then 0 else 3
theorem s_X11_shadowFinding {G : zG} {w : zW} {r t : Nat} (hw : zWf w) (hr : r < 6) (ht : t < 6) : zEi G mX11_shadowFinding [.ref (4 + 2 * r), .ref (4 + 2 * t)] w (c_shf w r t) w := by
  have hA := zRwR hr
  have hB := zRwR ht
  have e1 : 4 + 2 * r + 1 = 5 + 2 * r := by omega
  have e2 : 4 + 2 * t + 1 = 5 + 2 * t := by omega
  refine zC_of (lo := [_, _]) kcX11_shadowFinding (Nat.le_of_ble_eq_true rfl) rfl (fun X hX hE => ?_)
  refine zk_aload_n hX dX11_shadowFinding_0 rfl ?_
  refine zk_V0i hX dX11_shadowFinding_1 kcX8_isThere mlX11_119 viX8_isThere rfl (zRw_k0 hA) hA.1.2.1 (s_X8_isThere hA) (Nat.le_of_ble_eq_true rfl) rfl ?_
  refine zk_if_eqB (tgt := 14) hX dX11_shadowFinding_4 (by decide) (fun c4 => ?_) (fun c4 => ?_)
  · refine zk_iconst (v := 1) hX dX11_shadowFinding_14 (by decide) ?_
    refine zk_iret hX hE rfl ⟨rfl, rfl⟩ dX11_shadowFinding_15 ⟨_, rfl, ?_⟩
    unfold c_shf
    rw [e1, e2] at *
    first
      | (rw [if_pos (by grind)]; exact ⟨rfl, rfl⟩)
      | (rw [if_neg (by grind), if_pos (by grind)]; exact ⟨rfl, rfl⟩)
      | (rw [if_neg (by grind), if_neg (by grind), if_pos (by grind)]; exact ⟨rfl, rfl⟩)
      | (rw [if_neg (by grind), if_neg (by grind), if_neg (by grind)]; exact ⟨rfl, rfl⟩)
  · refine zk_aload_n hX dX11_shadowFinding_7 rfl ?_
    refine zk_V0i hX dX11_shadowFinding_8 kcX8_isThere mlX11_119 viX8_isThere rfl (zRw_k0 hB) hB.1.2.1 (s_X8_isThere hB) (Nat.le_of_ble_eq_true rfl) rfl ?_
    refine zk_if_neB (tgt := 16) hX dX11_shadowFinding_11 (by decide) (fun c11 => ?_) (fun c11 => ?_)
    · refine zk_aload_n hX dX11_shadowFinding_16 rfl ?_
      refine zk_getI hX dX11_shadowFinding_17 flX11_146 (zRw_k0 hA) hA.1.2.1 ?_
      refine zk_bipush (v := 10) hX dX11_shadowFinding_20 (by decide) ?_
      refine zk_icmp_ne (tgt := 34) hX dX11_shadowFinding_22 (by decide) (fun c22 => ?_) (fun c22 => ?_)
      · refine zk_iconst (v := 5) hX dX11_shadowFinding_34 (by decide) ?_
        refine zk_iret hX hE rfl ⟨rfl, rfl⟩ dX11_shadowFinding_35 ⟨_, rfl, ?_⟩
        unfold c_shf
        rw [e1, e2] at *
        first
          | (rw [if_pos (by grind)]; exact ⟨rfl, rfl⟩)
          | (rw [if_neg (by grind), if_pos (by grind)]; exact ⟨rfl, rfl⟩)
          | (rw [if_neg (by grind), if_neg (by grind), if_pos (by grind)]; exact ⟨rfl, rfl⟩)
          | (rw [if_neg (by grind), if_neg (by grind), if_neg (by grind)]; exact ⟨rfl, rfl⟩)
      · refine zk_aload_n hX dX11_shadowFinding_25 rfl ?_
        refine zk_getI hX dX11_shadowFinding_26 flX11_146 (zRw_k0 hB) hB.1.2.1 ?_
        refine zk_bipush (v := 10) hX dX11_shadowFinding_29 (by decide) ?_
        refine zk_icmp_eq (tgt := 36) hX dX11_shadowFinding_31 (by decide) (fun c31 => ?_) (fun c31 => ?_)
        · refine zk_aload_n hX dX11_shadowFinding_36 rfl ?_
          refine zk_V0i hX dX11_shadowFinding_37 kcX8_hasLines mlX11_510 viX8_hasLines rfl (zRw_k0 hA) hA.1.2.1 (s_X8_hasLines hA hw (m := 10) (by decide) (by first | exact c22 | exact Decidable.not_not.mp c22)) (Nat.le_of_ble_eq_true rfl) rfl ?_
          refine zk_if_eqB (tgt := 54) hX dX11_shadowFinding_40 (by decide) (fun c40 => ?_) (fun c40 => ?_)
          · refine zk_iconst (v := 3) hX dX11_shadowFinding_54 (by decide) ?_
            refine zk_iret hX hE rfl ⟨rfl, rfl⟩ dX11_shadowFinding_55 ⟨_, rfl, ?_⟩
            unfold c_shf
            rw [e1, e2] at *
            first
              | (rw [if_pos (by grind)]; exact ⟨rfl, rfl⟩)
              | (rw [if_neg (by grind), if_pos (by grind)]; exact ⟨rfl, rfl⟩)
              | (rw [if_neg (by grind), if_neg (by grind), if_pos (by grind)]; exact ⟨rfl, rfl⟩)
              | (rw [if_neg (by grind), if_neg (by grind), if_neg (by grind)]; exact ⟨rfl, rfl⟩)
          · refine zk_aload_n hX dX11_shadowFinding_43 rfl ?_
            refine zk_V0i hX dX11_shadowFinding_44 kcX8_hasLines mlX11_510 viX8_hasLines rfl (zRw_k0 hB) hB.1.2.1 (s_X8_hasLines hB hw (m := 10) (by decide) c31) (Nat.le_of_ble_eq_true rfl) rfl ?_
            refine zk_if_eqB (tgt := 54) hX dX11_shadowFinding_47 (by decide) (fun c47 => ?_) (fun c47 => ?_)
            · refine zk_iconst (v := 3) hX dX11_shadowFinding_54 (by decide) ?_
              refine zk_iret hX hE rfl ⟨rfl, rfl⟩ dX11_shadowFinding_55 ⟨_, rfl, ?_⟩
              unfold c_shf
              rw [e1, e2] at *
              first
                | (rw [if_pos (by grind)]; exact ⟨rfl, rfl⟩)
                | (rw [if_neg (by grind), if_pos (by grind)]; exact ⟨rfl, rfl⟩)
                | (rw [if_neg (by grind), if_neg (by grind), if_pos (by grind)]; exact ⟨rfl, rfl⟩)
                | (rw [if_neg (by grind), if_neg (by grind), if_neg (by grind)]; exact ⟨rfl, rfl⟩)
            · refine zk_iconst (v := 0) hX dX11_shadowFinding_50 (by decide) ?_
              refine zk_goto (tgt := 55) hX dX11_shadowFinding_51 (by decide) ?_
              refine zk_iret hX hE rfl ⟨rfl, rfl⟩ dX11_shadowFinding_55 ⟨_, rfl, ?_⟩
              unfold c_shf
              rw [e1, e2] at *
              first
                | (rw [if_pos (by grind)]; exact ⟨rfl, rfl⟩)
                | (rw [if_neg (by grind), if_pos (by grind)]; exact ⟨rfl, rfl⟩)
                | (rw [if_neg (by grind), if_neg (by grind), if_pos (by grind)]; exact ⟨rfl, rfl⟩)
                | (rw [if_neg (by grind), if_neg (by grind), if_neg (by grind)]; exact ⟨rfl, rfl⟩)
        · refine zk_iconst (v := 5) hX dX11_shadowFinding_34 (by decide) ?_
          refine zk_iret hX hE rfl ⟨rfl, rfl⟩ dX11_shadowFinding_35 ⟨_, rfl, ?_⟩
          unfold c_shf
          rw [e1, e2] at *
          first
            | (rw [if_pos (by grind)]; exact ⟨rfl, rfl⟩)
            | (rw [if_neg (by grind), if_pos (by grind)]; exact ⟨rfl, rfl⟩)
            | (rw [if_neg (by grind), if_neg (by grind), if_pos (by grind)]; exact ⟨rfl, rfl⟩)
            | (rw [if_neg (by grind), if_neg (by grind), if_neg (by grind)]; exact ⟨rfl, rfl⟩)
    · refine zk_iconst (v := 1) hX dX11_shadowFinding_14 (by decide) ?_
      refine zk_iret hX hE rfl ⟨rfl, rfl⟩ dX11_shadowFinding_15 ⟨_, rfl, ?_⟩
      unfold c_shf
      rw [e1, e2] at *
      first
        | (rw [if_pos (by grind)]; exact ⟨rfl, rfl⟩)
        | (rw [if_neg (by grind), if_pos (by grind)]; exact ⟨rfl, rfl⟩)
        | (rw [if_neg (by grind), if_neg (by grind), if_pos (by grind)]; exact ⟨rfl, rfl⟩)
        | (rw [if_neg (by grind), if_neg (by grind), if_neg (by grind)]; exact ⟨rfl, rfl⟩)
