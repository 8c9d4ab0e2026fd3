/-! rows that become numbers -/
def cRowW (w : zW) (r n : Nat) (f : Nat → Int32) (w' : zW) : Prop := zFr [4 + 2 * r, 5 + 2 * r] [] [] w w' ∧ w'.1 (4 + 2 * r) 0 = nI n ∧ ∀ i, i < n → w'.1 (5 + 2 * r) i = f i
def mRowW (w : zW) (r n : Nat) (f : Nat → Int32) (w' : zW) : Prop := zFr [168, 169] [] [] w w' ∧ (∀ i, i ≠ r → w'.1 168 i = w.1 168 i) ∧ w'.1 168 r = nI n ∧ (∀ i, i < 40 * r ∨ 40 * r + 40 ≤ i → w'.1 169 i = w.1 169 i) ∧ ∀ i, i < n → w'.1 169 (40 * r + i) = f i
theorem zfill_fr {A B F : List Nat} {w : zW} {k m : Nat} {v : Int32} (h : k ∈ A) (h2 : k ≠ 166) : zFr A B F w (zfill w k m v) := by
  refine ⟨rfl, fun a h1 _ => ?_, fun _ _ => rfl, fun i _ => ?_⟩
  · funext i
    exact if_neg (fun (q : a = k ∧ i < m) => h1 (q.1.symm ▸ h))
  · exact if_neg (fun (q : 166 = k ∧ i < m) => h2 q.1.symm)
theorem zfillR_fr {A B F : List Nat} {w : zW} {k lo m : Nat} {v : Int32} (h : k ∈ A) (h2 : k ≠ 166) : zFr A B F w (zfillR w k lo m v) := by
  refine ⟨rfl, fun a h1 _ => ?_, fun _ _ => rfl, fun i _ => ?_⟩
  · funext i
    exact if_neg (fun (q : a = k ∧ lo ≤ i ∧ i < lo + m) => h1 (q.1.symm ▸ h))
  · exact if_neg (fun (q : 166 = k ∧ lo ≤ i ∧ i < lo + m) => h2 q.1.symm)
theorem s_X8_showCells {G : zG} {w : zW} {r k : Nat} {S : zS} (hw : zWf w) (hr : r < 6) (hC : zCe k) (hS : zHas w k S) : zCv G mX8_showCells [.ref (4 + 2 * r), .ref k] w (fun w' => cRowW w r 10 (fun y => nI (zline S y)) w') := by
  have hA := zRwR hr
  refine zC_of (lo := [_, _, _]) kcX8_showCells (Nat.le_of_ble_eq_true rfl) rfl (fun X hX hE => ?_)
  have loop : ∀ z i w1, i + z = 10 → zFr [4 + 2 * r, 5 + 2 * r] [] [] w w1 → w1.1 (4 + 2 * r) 0 = nI 10 → (∀ y, y < i → w1.1 (5 + 2 * r) y = nI (zline S y)) → zk0 G X mX8_showCells 9 [.ref (4 + 2 * r), .ref k, .int (nI i)] [] w1 := by
    intro z
    induction z with
    | zero =>
      intro i w1 hi hF h1 h2
      obtain rfl : i = 10 := by omega
      refine zk_iload_n hX dX8_showCells_9 rfl ?_
      refine zk_bipush (v := 10) hX dX8_showCells_10 (by decide) ?_
      refine zk_icmp_ge (tgt := 31) hX dX8_showCells_12 (by decide) (fun c12 => ?_) (fun c12 => ?_)
      rotate_left
      · exact absurd (by decide) c12
      refine zk_vret hX hE rfl ⟨rfl, rfl⟩ dX8_showCells_31 ⟨rfl, ?_⟩
      exact ⟨hF, h1, h2⟩
    | succ z ih =>
      intro i w1 hi hF h1 h2
      have hw1 := zFr_wf hF hw
      have hS1 : zHas w1 k S := zHas_o hS (hF.2.2.1 k (by simp))
      refine zk_iload_n hX dX8_showCells_9 rfl ?_
      refine zk_bipush (v := 10) hX dX8_showCells_10 (by decide) ?_
      refine zk_icmp_ge (tgt := 31) hX dX8_showCells_12 (by decide) (fun c12 => ?_) (fun c12 => ?_)
      · exact absurd c12 (nI_ge (b := 10) (by omega) (by decide))
      refine zk_aload_n hX dX8_showCells_15 rfl ?_
      refine zk_iload_n hX dX8_showCells_16 rfl ?_
      refine zk_aload_n hX dX8_showCells_17 rfl ?_
      refine zk_iload_n hX dX8_showCells_18 rfl ?_
      refine zk_V1i hX dX8_showCells_19 kcX1_line mlX8_47 viX1_line rfl hC.1 hC.2 (s_X1_line hC hS1 (by omega)) (Nat.le_of_ble_eq_true rfl) rfl ?_
      refine zk_V2v hX dX8_showCells_22 kcX8_set mlX8_52 viX8_set rfl (zRw_k0 hA) hA.1.2.1 (s_X8_set hA hw1 (j := i) (m := 10) (by omega) (by decide) h1 _) (Nat.le_of_ble_eq_true rfl) rfl ?_
      refine zk_iinc (lo' := [_, _, _]) hX dX8_showCells_25 rfl (by first | exact zinc _ | exact rfl) (Nat.le_of_ble_eq_true rfl) rfl rfl ?_
      refine zk_goto (tgt := 9) hX dX8_showCells_28 (by decide) ?_
      refine ih (i + 1) _ (by omega) (zFr_t hF (zFr_i (by simp; omega) (by omega))) (by rw [zsi_1, if_neg (by omega)]; exact h1) (fun y hy => ?_)
      rw [zsi_1]
      by_cases q : y = i
      · rw [if_pos ⟨by omega, q⟩, q]
      · rw [if_neg (fun z => q z.2)]
        exact h2 y (by omega)
  refine zk_aload_n hX dX8_showCells_0 rfl ?_
  refine zk_bipush (v := 10) hX dX8_showCells_1 (by decide) ?_
  refine zk_iconst (v := 0) hX dX8_showCells_3 (by decide) ?_
  refine zk_V2v hX dX8_showCells_4 kcX8_renew mlX8_43 viX8_renew rfl (zRw_k0 hA) hA.1.2.1 (s_X8_renew hA hw (m := 10) (by decide) 0) (Nat.le_of_ble_eq_true rfl) rfl ?_
  refine zk_iconst (v := 0) hX dX8_showCells_7 (by decide) ?_
  refine zk_istore_n (lo' := [_, _, _]) hX dX8_showCells_8 (Nat.le_of_ble_eq_true rfl) rfl rfl ?_
  exact loop 10 0 _ (by omega) (zFr_t (zFr_i (by simp) (by omega)) (zfill_fr (by simp; omega) (by omega))) (by rw [zfill_1, if_neg (by omega), zsi_1, if_pos ⟨rfl, rfl⟩]) (fun y hy => absurd hy (by omega))
theorem s_X12_clear {G : zG} {w : zW} (hw : zWf w) {r : Nat} (hr : r < 6) (n : Int32) : zEv G mX12_clear [.ref 166, .int (nI r), .int n] w (zfillR (zsi w 168 r n) 169 (40 * r) 40 0) := by
  refine zC_of (lo := [_, _, _, _]) kcX12_clear (Nat.le_of_ble_eq_true rfl) rfl (fun X hX hE => ?_)
  have loop : ∀ k i, i + k = 40 → zk0 G X mX12_clear 9 [.ref 166, .int (nI r), .int n, .int (nI i)] [] (zfillR (zsi w 168 r n) 169 (40 * r) i 0) := by
    intro k
    induction k with
    | zero =>
      intro i hi
      obtain rfl : i = 40 := by omega
      refine zk_iload_n hX dX12_clear_9 rfl ?_
      refine zk_bipush (v := 40) hX dX12_clear_10 (by decide) ?_
      refine zk_icmp_ge (tgt := 33) hX dX12_clear_12 (by decide) (fun c12 => ?_) (fun c12 => ?_)
      rotate_left
      · exact absurd (by decide) c12
      refine zk_vret hX hE rfl ⟨rfl, rfl⟩ dX12_clear_33 ⟨rfl, ?_⟩
      rfl
    | succ k ih =>
      intro i hi
      refine zk_iload_n hX dX12_clear_9 rfl ?_
      refine zk_bipush (v := 40) hX dX12_clear_10 (by decide) ?_
      refine zk_icmp_ge (tgt := 33) hX dX12_clear_12 (by decide) (fun c12 => ?_) (fun c12 => ?_)
      · exact absurd c12 (nI_ge (b := 40) (by omega) (by decide))
      refine zk_aload_n hX dX12_clear_15 rfl ?_
      refine zk_getR hX dX12_clear_16 flX12_16 k_166 z_166 (hw _ _ (by decide) |>.trans r_166_6) ?_
      refine zk_bipush (v := 40) hX dX12_clear_19 (by decide) ?_
      refine zk_iload_n hX dX12_clear_21 rfl ?_
      refine zk_imul hX dX12_clear_22 ?_
      refine zk_iload_n hX dX12_clear_23 rfl ?_
      refine zk_iadd hX dX12_clear_24 ?_
      refine zk_iconst (v := 0) hX dX12_clear_25 (by decide) ?_
      refine zk_iastE hX dX12_clear_26 (nI_addE (nI_mulE (nI_k 40 rfl) rfl) rfl) k_169 z_169 (by first | assumption | omega) rfl ?_
      rw [zfillR_s]
      refine zk_iinc (lo' := [_, _, _, _]) hX dX12_clear_27 rfl (by first | exact zinc _ | exact rfl) (Nat.le_of_ble_eq_true rfl) rfl rfl ?_
      refine zk_goto (tgt := 9) hX dX12_clear_30 (by decide) ?_
      exact ih (i + 1) (by omega)
  refine zk_aload_n hX dX12_clear_0 rfl ?_
  refine zk_getR hX dX12_clear_1 flX12_13 k_166 z_166 (hw _ _ (by decide) |>.trans r_166_5) ?_
  refine zk_iload_n hX dX12_clear_4 rfl ?_
  refine zk_iload_n hX dX12_clear_5 rfl ?_
  refine zk_iastE hX dX12_clear_6 rfl k_168 z_168 (by first | assumption | omega) rfl ?_
  refine zk_iconst (v := 0) hX dX12_clear_7 (by decide) ?_
  refine zk_istore_n (lo' := [_, _, _, _]) hX dX12_clear_8 (Nat.le_of_ble_eq_true rfl) rfl rfl ?_
  rw [← zfillR_0 (w := zsi w 168 r n) (k := 169) (lo := 40 * r) (v := 0)]
  exact loop 40 0 (by omega)
theorem s_X12_toRow {G : zG} {w : zW} {r : Nat} {S : zS} (hw : zWf w) (hr : r < 6) (hS : zMd w S) : zCi G mX12_toRow [.ref 166, .int (nI r)] w (fun v w' => v = nI (zcard S) ∧ mRowW w r 10 (fun y => nI (zline S y)) w') := by
  refine zC_of (lo := [_, _, _]) kcX12_toRow (Nat.le_of_ble_eq_true rfl) rfl (fun X hX hE => ?_)
  have loop : ∀ z i w1, i + z = 10 → mRowW w r 10 (fun y => if y < i then nI (zline S y) else 0) w1 → zk0 G X mX12_toRow 9 [.ref 166, .int (nI r), .int (nI i)] [] w1 := by
    intro z
    induction z with
    | zero =>
      intro i w1 hi hF
      obtain rfl : i = 10 := by omega
      have hw1 := zFr_wf hF.1 hw
      refine zk_iload_n hX dX12_toRow_9 rfl ?_
      refine zk_bipush (v := 10) hX dX12_toRow_10 (by decide) ?_
      refine zk_icmp_ge (tgt := 38) hX dX12_toRow_12 (by decide) (fun c12 => ?_) (fun c12 => ?_)
      rotate_left
      · exact absurd (by decide) c12
      refine zk_aload_n hX dX12_toRow_38 rfl ?_
      refine zk_V0i hX dX12_toRow_39 kcX12_darkMany mlX12_278 viX12_darkMany rfl k_166 z_166 (s_X12_darkMany hw1 (zMd_o hS (hF.1.2.1 182 (by decide) (by decide)))) (Nat.le_of_ble_eq_true rfl) rfl ?_
      refine zk_iret hX hE rfl ⟨rfl, rfl⟩ dX12_toRow_42 ⟨_, rfl, ?_⟩
      exact ⟨rfl, hF.1, hF.2.1, hF.2.2.1, hF.2.2.2.1, fun y hy => (hF.2.2.2.2 y hy).trans (if_pos hy)⟩
    | succ z ih =>
      intro i w1 hi hF
      have hw1 := zFr_wf hF.1 hw
      refine zk_iload_n hX dX12_toRow_9 rfl ?_
      refine zk_bipush (v := 10) hX dX12_toRow_10 (by decide) ?_
      refine zk_icmp_ge (tgt := 38) hX dX12_toRow_12 (by decide) (fun c12 => ?_) (fun c12 => ?_)
      · exact absurd c12 (nI_ge (b := 10) (by omega) (by decide))
      refine zk_aload_n hX dX12_toRow_15 rfl ?_
      refine zk_getR hX dX12_toRow_16 flX12_16 k_166 z_166 (hw1 _ _ (by decide) |>.trans r_166_6) ?_
      refine zk_bipush (v := 40) hX dX12_toRow_19 (by decide) ?_
      refine zk_iload_n hX dX12_toRow_21 rfl ?_
      refine zk_imul hX dX12_toRow_22 ?_
      refine zk_iload_n hX dX12_toRow_23 rfl ?_
      refine zk_iadd hX dX12_toRow_24 ?_
      refine zk_aload_n hX dX12_toRow_25 rfl ?_
      refine zk_getR hX dX12_toRow_26 flX12_56 k_166 z_166 (hw1 _ _ (by decide) |>.trans r_166_32) ?_
      refine zk_iload_n hX dX12_toRow_29 rfl ?_
      refine zk_ialdE hX dX12_toRow_30 rfl k_182 z_182 (by first | assumption | omega) rfl ?_
      rw [zMd_o hS (hF.1.2.1 182 (by decide) (by decide)) i (by omega)]
      refine zk_iastE hX dX12_toRow_31 (nI_addE (nI_mulE (nI_k 40 rfl) rfl) rfl) k_169 z_169 (by first | assumption | omega) rfl ?_
      refine zk_iinc (lo' := [_, _, _]) hX dX12_toRow_32 rfl (by first | exact zinc _ | exact rfl) (Nat.le_of_ble_eq_true rfl) rfl rfl ?_
      refine zk_goto (tgt := 9) hX dX12_toRow_35 (by decide) ?_
      refine ih (i + 1) _ (by omega) ⟨zFr_t hF.1 (zFr_i (by decide) (by decide)), fun j hj => ?_, ?_, fun j hj => ?_, fun y hy => ?_⟩
      · rw [zsi_1, if_neg (by omega)]
        exact hF.2.1 j hj
      · rw [zsi_1, if_neg (by omega)]
        exact hF.2.2.1
      · rw [zsi_1, if_neg (by omega)]
        exact hF.2.2.2.1 j hj
      · show _ = if y < i + 1 then nI (zline S y) else 0
        rw [zsi_1]
        by_cases q : y = i
        · rw [if_pos ⟨rfl, by omega⟩, if_pos (by omega), q]
        · rw [if_neg (by omega)]
          refine (hF.2.2.2.2 y hy).trans ?_
          show (if y < i then nI (zline S y) else 0) = _
          by_cases q2 : y < i
          · rw [if_pos q2, if_pos (by omega)]
          · rw [if_neg q2, if_neg (by omega)]
  refine zk_aload_n hX dX12_toRow_0 rfl ?_
  refine zk_iload_n hX dX12_toRow_1 rfl ?_
  refine zk_bipush (v := 10) hX dX12_toRow_2 (by decide) ?_
  refine zk_V2v hX dX12_toRow_4 kcX12_clear mlX12_275 viX12_clear rfl k_166 z_166 (s_X12_clear hw hr _) (Nat.le_of_ble_eq_true rfl) rfl ?_
  refine zk_iconst (v := 0) hX dX12_toRow_7 (by decide) ?_
  refine zk_istore_n (lo' := [_, _, _]) hX dX12_toRow_8 (Nat.le_of_ble_eq_true rfl) rfl rfl ?_
  refine loop 10 0 _ (by omega) ⟨zFr_t (zFr_i (by decide) (by decide)) (zfillR_fr (by decide) (by decide)), fun j hj => ?_, ?_, fun j hj => ?_, fun y hy => ?_⟩
  · rw [zfillR_1, if_neg (by omega), zsi_1, if_neg (by omega)]
  · rw [zfillR_1, if_neg (by omega), zsi_1, if_pos ⟨rfl, rfl⟩]
    rfl
  · rw [zfillR_1, if_neg (by omega), zsi_1, if_neg (by omega)]
  · show _ = if y < 0 then nI (zline S y) else 0
    rw [zfillR_1, if_pos ⟨rfl, by omega, by omega⟩, if_neg (by omega)]
/-! shadows in rows -/
/-- the set whose lines these are -/
def zofL (f : Nat → Nat) : zS := fun c => (f (c / 12)).testBit (c % 12)
theorem zline_of {f : Nat → Nat} {y : Nat} (h : f y < 4096) : zline (zofL f) y = f y := by
  symm
  refine zbits_of h (fun i hi => ?_)
  unfold zofL
  rw [show (12 * y + i) / 12 = y by omega, show (12 * y + i) % 12 = i by omega]
theorem s_X8_showTo {G : zG} {w : zW} {a L k : Nat} {f : Nat → Nat} (hw : zWf w) (hA : zRw a L) (hC : zCe k) (h0 : w.1 a 0 = nI 10) (hf : ∀ y, y < 10 → w.1 (a + 1) y = nI (f y)) : zEv G mX8_showTo [.ref a, .ref k] w (zsetS w k (zofL f)) := by
  have hL : 10 ≤ L := by rcases hA.2 with h | h <;> omega
  have hSz : zSz (w.1 a 0) L := Or.inr ⟨10, hL, h0⟩
  refine zC_of (lo := [_, _, _]) kcX8_showTo (Nat.le_of_ble_eq_true rfl) rfl (fun X hX hE => ?_)
  have loop : ∀ z i, i + z = 10 → zk0 G X mX8_showTo 6 [.ref a, .ref k, .int (nI i)] [] (zsetS w k (fun c => decide (c / 12 < i) && (f (c / 12)).testBit (c % 12))) := by
    intro z
    induction z with
    | zero =>
      intro i hi
      obtain rfl : i = 10 := by omega
      refine zk_iload_n hX dX8_showTo_6 rfl ?_
      refine zk_bipush (v := 10) hX dX8_showTo_7 (by decide) ?_
      refine zk_icmp_ge (tgt := 28) hX dX8_showTo_9 (by decide) (fun c9 => ?_) (fun c9 => ?_)
      rotate_left
      · exact absurd (by decide) c9
      refine zk_vret hX hE rfl ⟨rfl, rfl⟩ dX8_showTo_28 ⟨rfl, ?_⟩
      refine zsetS_c (fun c hc => ?_)
      have q : c / 12 < 10 := by omega
      unfold zofL
      simp [q]
    | succ z ih =>
      intro i hi
      have e1 : ∀ c, c < 120 → zaddl (fun c => decide (c / 12 < i) && (f (c / 12)).testBit (c % 12)) (nI i) (f i) c = (decide (c / 12 < i + 1) && (f (c / 12)).testBit (c % 12)) := by
        intro c hc
        rw [zaddl_nat (by omega) hc]
        rcases Nat.lt_trichotomy (c / 12) i with q | q | q
        · have q1 : c / 12 < i + 1 := by omega
          have q2 : ¬ i = c / 12 := by omega
          simp [q, q1, q2]
        · have q1 : ¬ c / 12 < i := by omega
          subst q
          simp
        · have q1 : ¬ c / 12 < i + 1 := by omega
          have q2 : ¬ i = c / 12 := by omega
          have q3 : ¬ c / 12 < i := by omega
          simp [q1, q2, q3]
      refine zk_iload_n hX dX8_showTo_6 rfl ?_
      refine zk_bipush (v := 10) hX dX8_showTo_7 (by decide) ?_
      refine zk_icmp_ge (tgt := 28) hX dX8_showTo_9 (by decide) (fun c9 => ?_) (fun c9 => ?_)
      · exact absurd c9 (nI_ge (b := 10) (by omega) (by decide))
      refine zk_aload_n hX dX8_showTo_12 rfl ?_
      refine zk_iload_n hX dX8_showTo_13 rfl ?_
      refine zk_aload_n hX dX8_showTo_14 rfl ?_
      refine zk_iload_n hX dX8_showTo_15 rfl ?_
      refine zk_V1i hX dX8_showTo_16 kcX8_get mlX8_39 viX8_get rfl (zRw_k0 hA) hA.1.2.1 (s_X8_get hA (zWf_of hw rfl) (w := zsetS w k _) hSz _) (Nat.le_of_ble_eq_true rfl) rfl ?_
      rw [show zRget (zsetS w k (fun c => decide (c / 12 < i) && (f (c / 12)).testBit (c % 12))) a (nI i) = nI (f i) from (zRget_in (w := w) h0 (by decide) (by omega)).trans (hf i (by omega))]
      refine zk_V2v hX dX8_showTo_19 kcX1_addLine mlX8_58 viX1_addLine rfl hC.1 hC.2 (s_X1_addLine hC zsetS_has _ _) (Nat.le_of_ble_eq_true rfl) rfl ?_
      rw [zsetS_ss, zsetS_c e1]
      refine zk_iinc (lo' := [_, _, _]) hX dX8_showTo_22 rfl (by first | exact zinc _ | exact rfl) (Nat.le_of_ble_eq_true rfl) rfl rfl ?_
      refine zk_goto (tgt := 6) hX dX8_showTo_25 (by decide) ?_
      exact ih (i + 1) (by omega)
  refine zk_aload_n hX dX8_showTo_0 rfl ?_
  refine zk_V0v hX dX8_showTo_1 kcX1_clear mlX8_55 viX1_clear rfl hC.1 hC.2 (s_X1_clear hC) (Nat.le_of_ble_eq_true rfl) rfl ?_
  refine zk_iconst (v := 0) hX dX8_showTo_4 (by decide) ?_
  refine zk_istore_n (lo' := [_, _, _]) hX dX8_showTo_5 (Nat.le_of_ble_eq_true rfl) rfl rfl ?_
  have h9 := loop 10 0 (by omega)
  rw [zsetS_c (T := zno) (fun c _ => by simp [zno])] at h9
  exact h9
/-- the lines of a row are lines of a shadow -/
abbrev zLok (g : Nat → Int32) : Prop := ∀ i, i < 10 → 0 ≤ g i ∧ g i ≤ 4095
def c_shf (w : zW) (r t : Nat) : Int32 := if ¬ (0 ≤ w.1 (4 + 2 * r) 0 ∧ 0 ≤ w.1 (4 + 2 * t) 0) then 1 else if ¬ (w.1 (4 + 2 * r) 0 = 10 ∧ w.1 (4 + 2 * t) 0 = 10) then 5 else if zLok (w.1 (5 + 2 * r)) ∧ zLok (w.1 (5 + 2 * t)) then 0 else 3
theorem s_X11_shadowFinding {G : zG} {w : zW} {r t : Nat} (hw : zWf w) (hr : r < 6) (ht : t < 6) : zEi G mX11_shadowFinding [.ref (4 + 2 * r), .ref (4 + 2 * t)] w (c_shf w r t) w := by
  have hA := zRwR hr
  have hB := zRwR ht
  have e1 : 4 + 2 * r + 1 = 5 + 2 * r := by omega
  have e2 : 4 + 2 * t + 1 = 5 + 2 * t := by omega
  refine zC_of (lo := [_, _]) kcX11_shadowFinding (Nat.le_of_ble_eq_true rfl) rfl (fun X hX hE => ?_)
  refine zk_aload_n hX dX11_shadowFinding_0 rfl ?_
  refine zk_V0i hX dX11_shadowFinding_1 kcX8_isThere mlX11_119 viX8_isThere rfl (zRw_k0 hA) hA.1.2.1 (s_X8_isThere hA) (Nat.le_of_ble_eq_true rfl) rfl ?_
  refine zk_if_eqB (tgt := 14) hX dX11_shadowFinding_4 (by decide) (fun c4 => ?_) (fun c4 => ?_)
  · refine zk_iconst (v := 1) hX dX11_shadowFinding_14 (by decide) ?_
    refine zk_iret hX hE rfl ⟨rfl, rfl⟩ dX11_shadowFinding_15 ⟨_, rfl, ?_⟩
    unfold c_shf
    rw [e1, e2] at *
    first
      | (rw [if_pos (by grind)]; exact ⟨rfl, rfl⟩)
      | (rw [if_neg (by grind), if_pos (by grind)]; exact ⟨rfl, rfl⟩)
      | (rw [if_neg (by grind), if_neg (by grind), if_pos (by grind)]; exact ⟨rfl, rfl⟩)
      | (rw [if_neg (by grind), if_neg (by grind), if_neg (by grind)]; exact ⟨rfl, rfl⟩)
  · refine zk_aload_n hX dX11_shadowFinding_7 rfl ?_
    refine zk_V0i hX dX11_shadowFinding_8 kcX8_isThere mlX11_119 viX8_isThere rfl (zRw_k0 hB) hB.1.2.1 (s_X8_isThere hB) (Nat.le_of_ble_eq_true rfl) rfl ?_
    refine zk_if_neB (tgt := 16) hX dX11_shadowFinding_11 (by decide) (fun c11 => ?_) (fun c11 => ?_)
    · refine zk_aload_n hX dX11_shadowFinding_16 rfl ?_
      refine zk_getI hX dX11_shadowFinding_17 flX11_146 (zRw_k0 hA) hA.1.2.1 ?_
      refine zk_bipush (v := 10) hX dX11_shadowFinding_20 (by decide) ?_
      refine zk_icmp_ne (tgt := 34) hX dX11_shadowFinding_22 (by decide) (fun c22 => ?_) (fun c22 => ?_)
      · refine zk_iconst (v := 5) hX dX11_shadowFinding_34 (by decide) ?_
        refine zk_iret hX hE rfl ⟨rfl, rfl⟩ dX11_shadowFinding_35 ⟨_, rfl, ?_⟩
        unfold c_shf
        rw [e1, e2] at *
        first
          | (rw [if_pos (by grind)]; exact ⟨rfl, rfl⟩)
          | (rw [if_neg (by grind), if_pos (by grind)]; exact ⟨rfl, rfl⟩)
          | (rw [if_neg (by grind), if_neg (by grind), if_pos (by grind)]; exact ⟨rfl, rfl⟩)
          | (rw [if_neg (by grind), if_neg (by grind), if_neg (by grind)]; exact ⟨rfl, rfl⟩)
      · refine zk_aload_n hX dX11_shadowFinding_25 rfl ?_
        refine zk_getI hX dX11_shadowFinding_26 flX11_146 (zRw_k0 hB) hB.1.2.1 ?_
        refine zk_bipush (v := 10) hX dX11_shadowFinding_29 (by decide) ?_
        refine zk_icmp_eq (tgt := 36) hX dX11_shadowFinding_31 (by decide) (fun c31 => ?_) (fun c31 => ?_)
        · refine zk_aload_n hX dX11_shadowFinding_36 rfl ?_
          refine zk_V0i hX dX11_shadowFinding_37 kcX8_hasLines mlX11_510 viX8_hasLines rfl (zRw_k0 hA) hA.1.2.1 (s_X8_hasLines hA hw (m := 10) (by decide) (by first | exact c22 | exact Decidable.not_not.mp c22)) (Nat.le_of_ble_eq_true rfl) rfl ?_
          refine zk_if_eqB (tgt := 54) hX dX11_shadowFinding_40 (by decide) (fun c40 => ?_) (fun c40 => ?_)
          · refine zk_iconst (v := 3) hX dX11_shadowFinding_54 (by decide) ?_
            refine zk_iret hX hE rfl ⟨rfl, rfl⟩ dX11_shadowFinding_55 ⟨_, rfl, ?_⟩
            unfold c_shf
            rw [e1, e2] at *
            first
              | (rw [if_pos (by grind)]; exact ⟨rfl, rfl⟩)
              | (rw [if_neg (by grind), if_pos (by grind)]; exact ⟨rfl, rfl⟩)
              | (rw [if_neg (by grind), if_neg (by grind), if_pos (by grind)]; exact ⟨rfl, rfl⟩)
              | (rw [if_neg (by grind), if_neg (by grind), if_neg (by grind)]; exact ⟨rfl, rfl⟩)
          · refine zk_aload_n hX dX11_shadowFinding_43 rfl ?_
            refine zk_V0i hX dX11_shadowFinding_44 kcX8_hasLines mlX11_510 viX8_hasLines rfl (zRw_k0 hB) hB.1.2.1 (s_X8_hasLines hB hw (m := 10) (by decide) c31) (Nat.le_of_ble_eq_true rfl) rfl ?_
            refine zk_if_eqB (tgt := 54) hX dX11_shadowFinding_47 (by decide) (fun c47 => ?_) (fun c47 => ?_)
            · refine zk_iconst (v := 3) hX dX11_shadowFinding_54 (by decide) ?_
              refine zk_iret hX hE rfl ⟨rfl, rfl⟩ dX11_shadowFinding_55 ⟨_, rfl, ?_⟩
              unfold c_shf
              rw [e1, e2] at *
              first
                | (rw [if_pos (by grind)]; exact ⟨rfl, rfl⟩)
                | (rw [if_neg (by grind), if_pos (by grind)]; exact ⟨rfl, rfl⟩)
                | (rw [if_neg (by grind), if_neg (by grind), if_pos (by grind)]; exact ⟨rfl, rfl⟩)
                | (rw [if_neg (by grind), if_neg (by grind), if_neg (by grind)]; exact ⟨rfl, rfl⟩)
            · refine zk_iconst (v := 0) hX dX11_shadowFinding_50 (by decide) ?_
              refine zk_goto (tgt := 55) hX dX11_shadowFinding_51 (by decide) ?_
              refine zk_iret hX hE rfl ⟨rfl, rfl⟩ dX11_shadowFinding_55 ⟨_, rfl, ?_⟩
              unfold c_shf
              rw [e1, e2] at *
              first
                | (rw [if_pos (by grind)]; exact ⟨rfl, rfl⟩)
                | (rw [if_neg (by grind), if_pos (by grind)]; exact ⟨rfl, rfl⟩)
                | (rw [if_neg (by grind), if_neg (by grind), if_pos (by grind)]; exact ⟨rfl, rfl⟩)
                | (rw [if_neg (by grind), if_neg (by grind), if_neg (by grind)]; exact ⟨rfl, rfl⟩)
        · refine zk_iconst (v := 5) hX dX11_shadowFinding_34 (by decide) ?_
          refine zk_iret hX hE rfl ⟨rfl, rfl⟩ dX11_shadowFinding_35 ⟨_, rfl, ?_⟩
          unfold c_shf
          rw [e1, e2] at *
          first
            | (rw [if_pos (by grind)]; exact ⟨rfl, rfl⟩)
            | (rw [if_neg (by grind), if_pos (by grind)]; exact ⟨rfl, rfl⟩)
            | (rw [if_neg (by grind), if_neg (by grind), if_pos (by grind)]; exact ⟨rfl, rfl⟩)
            | (rw [if_neg (by grind), if_neg (by grind), if_neg (by grind)]; exact ⟨rfl, rfl⟩)
    · refine zk_iconst (v := 1) hX dX11_shadowFinding_14 (by decide) ?_
      refine zk_iret hX hE rfl ⟨rfl, rfl⟩ dX11_shadowFinding_15 ⟨_, rfl, ?_⟩
      unfold c_shf
      rw [e1, e2] at *
      first
        | (rw [if_pos (by grind)]; exact ⟨rfl, rfl⟩)
        | (rw [if_neg (by grind), if_pos (by grind)]; exact ⟨rfl, rfl⟩)
        | (rw [if_neg (by grind), if_neg (by grind), if_pos (by grind)]; exact ⟨rfl, rfl⟩)
        | (rw [if_neg (by grind), if_neg (by grind), if_neg (by grind)]; exact ⟨rfl, rfl⟩)
def m_need (w : zW) (r : Nat) : Int32 × zW := if ¬ 0 ≤ w.1 168 r then (-3, mfind w 1) else if ¬ w.1 168 r = 10 then (-3, mfind w 5) else if zLok (fun y => w.1 169 (40 * r + y)) then (0, w) else (-3, mfind w 3)
theorem s_X12_needShadow {G : zG} {w : zW} {r : Nat} (hw : zWf w) (hr : r < 6) : zFi G mX12_needShadow [.ref 166, .int (nI r)] w (m_need w r) := by
  refine zC_of (lo := [_, _, _, _]) kcX12_needShadow (Nat.le_of_ble_eq_true rfl) rfl (fun X hX hE => ?_)
  have loop : w.1 168 r = 10 → ∀ z i, i + z = 10 → zk0 G X mX12_needShadow 36 [.ref 166, .int (nI r), .int (zb (∀ y, y < i → 0 ≤ w.1 169 (40 * r + y) ∧ w.1 169 (40 * r + y) ≤ 4095)), .int (nI i)] [] w := by
    intro h10 z
    have h0 : 0 ≤ w.1 168 r := by rw [h10]; decide
    induction z with
    | zero =>
      intro i hi
      obtain rfl : i = 10 := by omega
      refine zk_iload_n hX dX12_needShadow_36 rfl ?_
      refine zk_bipush (v := 10) hX dX12_needShadow_37 (by decide) ?_
      refine zk_icmp_ge (tgt := 74) hX dX12_needShadow_39 (by decide) (fun c39 => ?_) (fun c39 => ?_)
      rotate_left
      · exact absurd (by decide) c39
      refine zk_iload_n hX dX12_needShadow_74 rfl ?_
      refine zk_if_eqB (tgt := 82) hX dX12_needShadow_75 (by decide) (fun c75 => ?_) (fun c75 => ?_)
      · refine zk_aload_n hX dX12_needShadow_82 rfl ?_
        refine zk_iconst (v := 3) hX dX12_needShadow_83 (by decide) ?_
        refine zk_V1i hX dX12_needShadow_84 kcX12_meets mlX12_145 viX12_meets rfl k_166 z_166 (s_X12_meets hw _ (by decide)) (Nat.le_of_ble_eq_true rfl) rfl ?_
        refine zk_iret hX hE rfl ⟨rfl, rfl⟩ dX12_needShadow_87 ⟨_, rfl, ?_⟩
        unfold m_need
        rw [if_neg (by grind), if_neg (by grind)]
        first | (rw [if_pos (by first | exact c75 | exact Decidable.not_not.mp c75)]; exact ⟨rfl, rfl⟩) | (rw [if_neg c75]; exact ⟨rfl, rfl⟩)
      · refine zk_iconst (v := 0) hX dX12_needShadow_78 (by decide) ?_
        refine zk_goto (tgt := 87) hX dX12_needShadow_79 (by decide) ?_
        refine zk_iret hX hE rfl ⟨rfl, rfl⟩ dX12_needShadow_87 ⟨_, rfl, ?_⟩
        unfold m_need
        rw [if_neg (by grind), if_neg (by grind)]
        first | (rw [if_pos (by first | exact c75 | exact Decidable.not_not.mp c75)]; exact ⟨rfl, rfl⟩) | (rw [if_neg c75]; exact ⟨rfl, rfl⟩)
    | succ z ih =>
      intro i hi
      have h9 := ih (i + 1) (by omega)
      have et : (∀ y, y < i → 0 ≤ w.1 169 (40 * r + y) ∧ w.1 169 (40 * r + y) ≤ 4095) → (0 ≤ w.1 169 (40 * r + i) ∧ w.1 169 (40 * r + i) ≤ 4095) → zb (∀ y, y < i + 1 → 0 ≤ w.1 169 (40 * r + y) ∧ w.1 169 (40 * r + y) ≤ 4095) = 1 := fun q1 q2 => zb_t (fun y hy => by
        rcases Nat.lt_succ_iff_lt_or_eq.mp hy with h | rfl
        · exact q1 y h
        · exact q2)
      have ef : ¬ ((∀ y, y < i → 0 ≤ w.1 169 (40 * r + y) ∧ w.1 169 (40 * r + y) ≤ 4095) ∧ (0 ≤ w.1 169 (40 * r + i) ∧ w.1 169 (40 * r + i) ≤ 4095)) → zb (∀ y, y < i + 1 → 0 ≤ w.1 169 (40 * r + y) ∧ w.1 169 (40 * r + y) ≤ 4095) = 0 := fun q => zb_f (fun q1 => q ⟨fun y hy => q1 y (by omega), q1 i (by omega)⟩)
      refine zk_iload_n hX dX12_needShadow_36 rfl ?_
      refine zk_bipush (v := 10) hX dX12_needShadow_37 (by decide) ?_
      refine zk_icmp_ge (tgt := 74) hX dX12_needShadow_39 (by decide) (fun c39 => ?_) (fun c39 => ?_)
      · exact absurd c39 (nI_ge (b := 10) (by omega) (by decide))
      refine zk_iload_n hX dX12_needShadow_42 rfl ?_
      refine zk_if_eqB (tgt := 66) hX dX12_needShadow_43 (by decide) (fun c43 => ?_) (fun c43 => ?_)
      · refine zk_iconst (v := 0) hX dX12_needShadow_66 (by decide) ?_
        refine zk_istore_n (lo' := [_, _, _, _]) hX dX12_needShadow_67 (Nat.le_of_ble_eq_true rfl) rfl rfl ?_
        refine zk_iinc (lo' := [_, _, _, _]) hX dX12_needShadow_68 rfl (by first | exact zinc _ | exact rfl) (Nat.le_of_ble_eq_true rfl) rfl rfl ?_
        refine zk_goto (tgt := 36) hX dX12_needShadow_71 (by decide) ?_
        first
        | (rw [et c43 c59] at h9; exact h9)
        | (rw [ef (fun q => c43 q.1)] at h9; exact h9)
        | (rw [ef (fun q => c59 q.2)] at h9; exact h9)
      · refine zk_aload_n hX dX12_needShadow_46 rfl ?_
        refine zk_iload_n hX dX12_needShadow_47 rfl ?_
        refine zk_iload_n hX dX12_needShadow_48 rfl ?_
        refine zk_V2i hX dX12_needShadow_49 kcX12_rowAt mlX12_149 viX12_rowAt rfl k_166 z_166 (s_X12_rowAt hw (by omega)) (Nat.le_of_ble_eq_true rfl) rfl ?_
        refine zk_iconst (v := 0) hX dX12_needShadow_52 (by decide) ?_
        refine zk_sipush (v := 4095) hX dX12_needShadow_53 (by decide) ?_
        refine zk_S3i hX dX12_needShadow_56 kcX12_in mlX12_131 smX12_in rfl (s_X12_in _ _ _) (Nat.le_of_ble_eq_true rfl) rfl ?_
        refine zk_if_eqB (tgt := 66) hX dX12_needShadow_59 (by decide) (fun c59 => ?_) (fun c59 => ?_)
        · refine zk_iconst (v := 0) hX dX12_needShadow_66 (by decide) ?_
          refine zk_istore_n (lo' := [_, _, _, _]) hX dX12_needShadow_67 (Nat.le_of_ble_eq_true rfl) rfl rfl ?_
          refine zk_iinc (lo' := [_, _, _, _]) hX dX12_needShadow_68 rfl (by first | exact zinc _ | exact rfl) (Nat.le_of_ble_eq_true rfl) rfl rfl ?_
          refine zk_goto (tgt := 36) hX dX12_needShadow_71 (by decide) ?_
          first
          | (rw [et c43 c59] at h9; exact h9)
          | (rw [ef (fun q => c43 q.1)] at h9; exact h9)
          | (rw [ef (fun q => c59 q.2)] at h9; exact h9)
        · refine zk_iconst (v := 1) hX dX12_needShadow_62 (by decide) ?_
          refine zk_goto (tgt := 67) hX dX12_needShadow_63 (by decide) ?_
          refine zk_istore_n (lo' := [_, _, _, _]) hX dX12_needShadow_67 (Nat.le_of_ble_eq_true rfl) rfl rfl ?_
          refine zk_iinc (lo' := [_, _, _, _]) hX dX12_needShadow_68 rfl (by first | exact zinc _ | exact rfl) (Nat.le_of_ble_eq_true rfl) rfl rfl ?_
          refine zk_goto (tgt := 36) hX dX12_needShadow_71 (by decide) ?_
          first
          | (rw [et c43 c59] at h9; exact h9)
          | (rw [ef (fun q => c43 q.1)] at h9; exact h9)
          | (rw [ef (fun q => c59 q.2)] at h9; exact h9)
  refine zk_aload_n hX dX12_needShadow_0 rfl ?_
  refine zk_getR hX dX12_needShadow_1 flX12_13 k_166 z_166 (hw _ _ (by decide) |>.trans r_166_5) ?_
  refine zk_iload_n hX dX12_needShadow_4 rfl ?_
  refine zk_ialdE hX dX12_needShadow_5 rfl k_168 z_168 (by first | assumption | omega) rfl ?_
  refine zk_if_ge (tgt := 15) hX dX12_needShadow_6 (by decide) (fun c6 => ?_) (fun c6 => ?_)
  · refine zk_aload_n hX dX12_needShadow_15 rfl ?_
    refine zk_getR hX dX12_needShadow_16 flX12_13 k_166 z_166 (hw _ _ (by decide) |>.trans r_166_5) ?_
    refine zk_iload_n hX dX12_needShadow_19 rfl ?_
    refine zk_ialdE hX dX12_needShadow_20 rfl k_168 z_168 (by first | assumption | omega) rfl ?_
    refine zk_bipush (v := 10) hX dX12_needShadow_21 (by decide) ?_
    refine zk_icmp_eq (tgt := 32) hX dX12_needShadow_23 (by decide) (fun c23 => ?_) (fun c23 => ?_)
    · refine zk_iconst (v := 1) hX dX12_needShadow_32 (by decide) ?_
      refine zk_istore_n (lo' := [_, _, _, _]) hX dX12_needShadow_33 (Nat.le_of_ble_eq_true rfl) rfl rfl ?_
      refine zk_iconst (v := 0) hX dX12_needShadow_34 (by decide) ?_
      refine zk_istore_n (lo' := [_, _, _, _]) hX dX12_needShadow_35 (Nat.le_of_ble_eq_true rfl) rfl rfl ?_
      have h9 := loop (by first | exact c23 | exact Decidable.not_not.mp c23) 10 0 (by omega)
      rw [zb_t (fun y hy => absurd hy (by omega))] at h9
      exact h9
    · refine zk_aload_n hX dX12_needShadow_26 rfl ?_
      refine zk_iconst (v := 5) hX dX12_needShadow_27 (by decide) ?_
      refine zk_V1i hX dX12_needShadow_28 kcX12_meets mlX12_145 viX12_meets rfl k_166 z_166 (s_X12_meets hw _ (by decide)) (Nat.le_of_ble_eq_true rfl) rfl ?_
      refine zk_iret hX hE rfl ⟨rfl, rfl⟩ dX12_needShadow_31 ⟨_, rfl, ?_⟩
      unfold m_need
      rw [if_neg (by grind), if_pos (by grind)]
      exact ⟨rfl, rfl⟩
  · refine zk_aload_n hX dX12_needShadow_9 rfl ?_
    refine zk_iconst (v := 1) hX dX12_needShadow_10 (by decide) ?_
    refine zk_V1i hX dX12_needShadow_11 kcX12_meets mlX12_145 viX12_meets rfl k_166 z_166 (s_X12_meets hw _ (by decide)) (Nat.le_of_ble_eq_true rfl) rfl ?_
    refine zk_iret hX hE rfl ⟨rfl, rfl⟩ dX12_needShadow_14 ⟨_, rfl, ?_⟩
    unfold m_need
    rw [if_pos (by grind)]
    exact ⟨rfl, rfl⟩
