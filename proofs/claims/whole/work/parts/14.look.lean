theorem zWrz : ∀ l, l < 8 → zsh (116 + l) = (1, 0, 3) := by decide +kernel
theorem zWrk {l : Nat} (h : l < 8) : 116 + l < zN := by unfold zN; omega
theorem zBez : ∀ k, k < 6 → (zsh (96 + 3 * k) = (0, 0, 0) ∧ zsh (97 + 3 * k) = (0, 1, 0) ∧ zsh (98 + 3 * k) = (0, 1, 0) ∧ zref (96 + 3 * k) 0 = some (97 + 3 * k) ∧ zref (96 + 3 * k) 1 = some (98 + 3 * k)) := by decide +kernel
theorem zBek {k : Nat} (h : k < 6) : 96 + 3 * k < zN := by unfold zN; omega
theorem zPoz : ∀ p, p < 12 → (zsh (47 + 4 * p) = (0, 5, 0) ∧ zsh (48 + 4 * p) = (1, 0, 6) ∧ zsh (49 + 4 * p) = (0, 1, 0) ∧ zsh (50 + 4 * p) = (0, 1, 0) ∧ zref (47 + 4 * p) 0 = some (48 + 4 * p) ∧ zref (47 + 4 * p) 1 = some (49 + 4 * p) ∧ zref (47 + 4 * p) 2 = some (50 + 4 * p)) := by decide +kernel
theorem zPok {p : Nat} (h : p < 12) : 47 + 4 * p < zN := by unfold zN; omega
/-! plain reads -/
theorem s_X11_asked {G : zG} {w : zW} (hw : zWf w) : zEi G mX11_asked [.ref 0] w (w.1 1 0) w := by
  refine zC_of (lo := [_]) kcX11_asked (Nat.le_of_ble_eq_true rfl) rfl (fun X hX hE => ?_)
  refine zk_aload_n hX dX11_asked_0 rfl ?_
  refine zk_getR hX dX11_asked_1 flX11_12 k_0 z_0 (hw _ _ (by decide) |>.trans r_0_0) ?_
  refine zk_getI hX dX11_asked_4 flX11_467 k_1 z_1 ?_
  refine zk_iret hX hE rfl ⟨rfl, rfl⟩ dX11_asked_7 ⟨_, rfl, ?_⟩
  exact ⟨rfl, rfl⟩
theorem s_X12_asked {G : zG} {w : zW} : zEi G mX12_asked [.ref 166] w (w.1 166 2) w := by
  refine zC_of (lo := [_]) kcX12_asked (Nat.le_of_ble_eq_true rfl) rfl (fun X hX hE => ?_)
  refine zk_aload_n hX dX12_asked_0 rfl ?_
  refine zk_getI hX dX12_asked_1 flX12_135 k_166 z_166 ?_
  refine zk_iret hX hE rfl ⟨rfl, rfl⟩ dX12_asked_4 ⟨_, rfl, ?_⟩
  exact ⟨rfl, rfl⟩
theorem s_X11_upper {G : zG} {w : zW} (hw : zWf w) : zEl G mX11_upper [.ref 0] w (w.2.1 1 1) w := by
  refine zC_of (lo := [_]) kcX11_upper (Nat.le_of_ble_eq_true rfl) rfl (fun X hX hE => ?_)
  refine zk_aload_n hX dX11_upper_0 rfl ?_
  refine zk_getR hX dX11_upper_1 flX11_12 k_0 z_0 (hw _ _ (by decide) |>.trans r_0_0) ?_
  refine zk_getL hX dX11_upper_4 flX11_470 k_1 z_1 ?_
  refine zk_lret hX hE rfl ⟨rfl, rfl⟩ dX11_upper_7 ⟨_, rfl, ?_⟩
  exact ⟨rfl, rfl⟩
theorem s_X12_upper {G : zG} {w : zW} : zEl G mX12_upper [.ref 166] w (w.2.1 166 3) w := by
  refine zC_of (lo := [_]) kcX12_upper (Nat.le_of_ble_eq_true rfl) rfl (fun X hX hE => ?_)
  refine zk_aload_n hX dX12_upper_0 rfl ?_
  refine zk_getL hX dX12_upper_1 flX12_138 k_166 z_166 ?_
  refine zk_lret hX hE rfl ⟨rfl, rfl⟩ dX12_upper_4 ⟨_, rfl, ?_⟩
  exact ⟨rfl, rfl⟩
theorem s_X11_lower {G : zG} {w : zW} (hw : zWf w) : zEl G mX11_lower [.ref 0] w (w.2.1 1 2) w := by
  refine zC_of (lo := [_]) kcX11_lower (Nat.le_of_ble_eq_true rfl) rfl (fun X hX hE => ?_)
  refine zk_aload_n hX dX11_lower_0 rfl ?_
  refine zk_getR hX dX11_lower_1 flX11_12 k_0 z_0 (hw _ _ (by decide) |>.trans r_0_0) ?_
  refine zk_getL hX dX11_lower_4 flX11_473 k_1 z_1 ?_
  refine zk_lret hX hE rfl ⟨rfl, rfl⟩ dX11_lower_7 ⟨_, rfl, ?_⟩
  exact ⟨rfl, rfl⟩
theorem s_X12_lower {G : zG} {w : zW} : zEl G mX12_lower [.ref 166] w (w.2.1 166 4) w := by
  refine zC_of (lo := [_]) kcX12_lower (Nat.le_of_ble_eq_true rfl) rfl (fun X hX hE => ?_)
  refine zk_aload_n hX dX12_lower_0 rfl ?_
  refine zk_getL hX dX12_lower_1 flX12_117 k_166 z_166 ?_
  refine zk_lret hX hE rfl ⟨rfl, rfl⟩ dX12_lower_4 ⟨_, rfl, ?_⟩
  exact ⟨rfl, rfl⟩
theorem s_X11_finding {G : zG} {w : zW} (hw : zWf w) : zEi G mX11_finding [.ref 0] w (w.1 1 3) w := by
  refine zC_of (lo := [_]) kcX11_finding (Nat.le_of_ble_eq_true rfl) rfl (fun X hX hE => ?_)
  refine zk_aload_n hX dX11_finding_0 rfl ?_
  refine zk_getR hX dX11_finding_1 flX11_12 k_0 z_0 (hw _ _ (by decide) |>.trans r_0_0) ?_
  refine zk_getI hX dX11_finding_4 flX11_485 k_1 z_1 ?_
  refine zk_iret hX hE rfl ⟨rfl, rfl⟩ dX11_finding_7 ⟨_, rfl, ?_⟩
  exact ⟨rfl, rfl⟩
theorem s_X12_finding {G : zG} {w : zW} : zEi G mX12_finding [.ref 166] w (w.1 166 0) w := by
  refine zC_of (lo := [_]) kcX12_finding (Nat.le_of_ble_eq_true rfl) rfl (fun X hX hE => ?_)
  refine zk_aload_n hX dX12_finding_0 rfl ?_
  refine zk_getI hX dX12_finding_1 flX12_128 k_166 z_166 ?_
  refine zk_iret hX hE rfl ⟨rfl, rfl⟩ dX12_finding_4 ⟨_, rfl, ?_⟩
  exact ⟨rfl, rfl⟩
theorem s_X11_findings {G : zG} {w : zW} (hw : zWf w) (f : Int32) : zEi G mX11_findings [.ref 0, .int f] w (if 1 ≤ f ∧ f ≤ 5 then w.1 2 f.toNatClampNeg else -1) w := by
  refine zC_of (lo := [_, _]) kcX11_findings (Nat.le_of_ble_eq_true rfl) rfl (fun X hX hE => ?_)
  refine zk_iload_n hX dX11_findings_0 rfl ?_
  refine zk_iconst (v := 1) hX dX11_findings_1 (by decide) ?_
  refine zk_icmp_lt (tgt := 10) hX dX11_findings_2 (by decide) (fun c2 => ?_) (fun c2 => ?_)
  · refine zk_iconst (v := -1) hX dX11_findings_10 (by decide) ?_
    refine zk_goto (tgt := 23) hX dX11_findings_11 (by decide) ?_
    refine zk_iret hX hE rfl ⟨rfl, rfl⟩ dX11_findings_23 ⟨_, rfl, ?_⟩
    first | (rw [if_pos (by grind), nI_clamp (by omega)]; exact ⟨rfl, rfl⟩) | (rw [if_neg (by grind)]; exact ⟨rfl, rfl⟩)
  · refine zk_iload_n hX dX11_findings_5 rfl ?_
    refine zk_iconst (v := 5) hX dX11_findings_6 (by decide) ?_
    refine zk_icmp_le (tgt := 14) hX dX11_findings_7 (by decide) (fun c7 => ?_) (fun c7 => ?_)
    · obtain ⟨k, hk, rfl⟩ := znatle (n := 5) (by decide) (by grind) c7
      refine zk_aload_n hX dX11_findings_14 rfl ?_
      refine zk_getR hX dX11_findings_15 flX11_12 k_0 z_0 (hw _ _ (by decide) |>.trans r_0_0) ?_
      refine zk_getR hX dX11_findings_18 flX11_488 k_1 z_1 (hw _ _ (by decide) |>.trans r_1_4) ?_
      refine zk_iload_n hX dX11_findings_21 rfl ?_
      refine zk_ialdE hX dX11_findings_22 rfl k_2 z_2 (by first | assumption | omega) rfl ?_
      refine zk_iret hX hE rfl ⟨rfl, rfl⟩ dX11_findings_23 ⟨_, rfl, ?_⟩
      first | (rw [if_pos (by grind), nI_clamp (by omega)]; exact ⟨rfl, rfl⟩) | (rw [if_neg (by grind)]; exact ⟨rfl, rfl⟩)
    · refine zk_iconst (v := -1) hX dX11_findings_10 (by decide) ?_
      refine zk_goto (tgt := 23) hX dX11_findings_11 (by decide) ?_
      refine zk_iret hX hE rfl ⟨rfl, rfl⟩ dX11_findings_23 ⟨_, rfl, ?_⟩
      first | (rw [if_pos (by grind), nI_clamp (by omega)]; exact ⟨rfl, rfl⟩) | (rw [if_neg (by grind)]; exact ⟨rfl, rfl⟩)
theorem s_X12_findings {G : zG} {w : zW} (hw : zWf w) (f : Int32) : zEi G mX12_findings [.ref 166, .int f] w (if 1 ≤ f ∧ f ≤ 5 then w.1 167 f.toNatClampNeg else -1) w := by
  refine zC_of (lo := [_, _]) kcX12_findings (Nat.le_of_ble_eq_true rfl) rfl (fun X hX hE => ?_)
  refine zk_iload_n hX dX12_findings_0 rfl ?_
  refine zk_iconst (v := 1) hX dX12_findings_1 (by decide) ?_
  refine zk_iconst (v := 5) hX dX12_findings_2 (by decide) ?_
  refine zk_S3i hX dX12_findings_3 kcX12_in mlX12_131 smX12_in rfl (s_X12_in _ _ _) (Nat.le_of_ble_eq_true rfl) rfl ?_
  refine zk_if_eqB (tgt := 18) hX dX12_findings_6 (by decide) (fun c6 => ?_) (fun c6 => ?_)
  · refine zk_iconst (v := -1) hX dX12_findings_18 (by decide) ?_
    refine zk_iret hX hE rfl ⟨rfl, rfl⟩ dX12_findings_19 ⟨_, rfl, ?_⟩
    first | (rw [if_pos (by grind), nI_clamp (by omega)]; exact ⟨rfl, rfl⟩) | (rw [if_neg (by grind)]; exact ⟨rfl, rfl⟩)
  · obtain ⟨k, hk, rfl⟩ := znatle (n := 5) (by decide) (by grind) c6.2
    refine zk_aload_n hX dX12_findings_9 rfl ?_
    refine zk_getR hX dX12_findings_10 flX12_7 k_166 z_166 (hw _ _ (by decide) |>.trans r_166_1) ?_
    refine zk_iload_n hX dX12_findings_13 rfl ?_
    refine zk_ialdE hX dX12_findings_14 rfl k_167 z_167 (by first | assumption | omega) rfl ?_
    refine zk_goto (tgt := 19) hX dX12_findings_15 (by decide) ?_
    refine zk_iret hX hE rfl ⟨rfl, rfl⟩ dX12_findings_19 ⟨_, rfl, ?_⟩
    first | (rw [if_pos (by grind), nI_clamp (by omega)]; exact ⟨rfl, rfl⟩) | (rw [if_neg (by grind)]; exact ⟨rfl, rfl⟩)
/-! strain, lamp -/
def c_strain (w : zW) (v : Int32) : Int32 × zW := if 0 ≤ v ∧ v ≤ 99 then (w.1 0 8, zsi w 0 8 v) else (-1, w)
theorem s_X11_strain {G : zG} {w : zW} (v : Int32) : zFi G mX11_strain [.ref 0, .int v] w (c_strain w v) := by
  refine zC_of (lo := [_, _, _]) kcX11_strain (Nat.le_of_ble_eq_true rfl) rfl (fun X hX hE => ?_)
  refine zk_iload_n hX dX11_strain_0 rfl ?_
  refine zk_if_lt (tgt := 10) hX dX11_strain_1 (by decide) (fun c1 => ?_) (fun c1 => ?_)
  · refine zk_iconst (v := -1) hX dX11_strain_10 (by decide) ?_
    refine zk_iret hX hE rfl ⟨rfl, rfl⟩ dX11_strain_11 ⟨_, rfl, ?_⟩
    unfold c_strain; (repeat' split) <;> first | exact ⟨rfl, rfl⟩ | grind
  · refine zk_iload_n hX dX11_strain_4 rfl ?_
    refine zk_bipush (v := 99) hX dX11_strain_5 (by decide) ?_
    refine zk_icmp_le (tgt := 12) hX dX11_strain_7 (by decide) (fun c7 => ?_) (fun c7 => ?_)
    · refine zk_aload_n hX dX11_strain_12 rfl ?_
      refine zk_getI hX dX11_strain_13 flX11_55 k_0 z_0 ?_
      refine zk_istore_n (lo' := [_, _, _]) hX dX11_strain_16 (Nat.le_of_ble_eq_true rfl) rfl rfl ?_
      refine zk_aload_n hX dX11_strain_17 rfl ?_
      refine zk_iload_n hX dX11_strain_18 rfl ?_
      refine zk_putI hX dX11_strain_19 plX11_55 (fun h => by cases h) k_0 z_0 rfl rfl ?_
      refine zk_iload_n hX dX11_strain_22 rfl ?_
      refine zk_iret hX hE rfl ⟨rfl, rfl⟩ dX11_strain_23 ⟨_, rfl, ?_⟩
      unfold c_strain; (repeat' split) <;> first | exact ⟨rfl, rfl⟩ | grind
    · refine zk_iconst (v := -1) hX dX11_strain_10 (by decide) ?_
      refine zk_iret hX hE rfl ⟨rfl, rfl⟩ dX11_strain_11 ⟨_, rfl, ?_⟩
      unfold c_strain; (repeat' split) <;> first | exact ⟨rfl, rfl⟩ | grind
def m_strain (w : zW) (v : Int32) : Int32 × zW := if 0 ≤ v ∧ v ≤ 99 then (w.1 166 24, zsi w 166 24 v) else (-1, w)
theorem s_X12_strain {G : zG} {w : zW} (v : Int32) : zFi G mX12_strain [.ref 166, .int v] w (m_strain w v) := by
  refine zC_of (lo := [_, _, _]) kcX12_strain (Nat.le_of_ble_eq_true rfl) rfl (fun X hX hE => ?_)
  refine zk_iload_n hX dX12_strain_0 rfl ?_
  refine zk_iconst (v := 0) hX dX12_strain_1 (by decide) ?_
  refine zk_bipush (v := 99) hX dX12_strain_2 (by decide) ?_
  refine zk_S3i hX dX12_strain_4 kcX12_in mlX12_131 smX12_in rfl (s_X12_in _ _ _) (Nat.le_of_ble_eq_true rfl) rfl ?_
  refine zk_if_neB (tgt := 12) hX dX12_strain_7 (by decide) (fun c7 => ?_) (fun c7 => ?_)
  · refine zk_aload_n hX dX12_strain_12 rfl ?_
    refine zk_getI hX dX12_strain_13 flX12_121 k_166 z_166 ?_
    refine zk_istore_n (lo' := [_, _, _]) hX dX12_strain_16 (Nat.le_of_ble_eq_true rfl) rfl rfl ?_
    refine zk_aload_n hX dX12_strain_17 rfl ?_
    refine zk_iload_n hX dX12_strain_18 rfl ?_
    refine zk_putI hX dX12_strain_19 plX12_121 (fun h => by cases h) k_166 z_166 rfl rfl ?_
    refine zk_iload_n hX dX12_strain_22 rfl ?_
    refine zk_iret hX hE rfl ⟨rfl, rfl⟩ dX12_strain_23 ⟨_, rfl, ?_⟩
    unfold m_strain; (repeat' split) <;> first | exact ⟨rfl, rfl⟩ | grind
  · refine zk_iconst (v := -1) hX dX12_strain_10 (by decide) ?_
    refine zk_iret hX hE rfl ⟨rfl, rfl⟩ dX12_strain_11 ⟨_, rfl, ?_⟩
    unfold m_strain; (repeat' split) <;> first | exact ⟨rfl, rfl⟩ | grind
/-- a lamp's cell -/
def zLp (a : Nat) : Prop := a = 44 ∨ a = 45
theorem zLp_k {a : Nat} (h : zLp a) : a < zN := by unfold zN; rcases h with rfl | rfl <;> decide
theorem zLp_z {a : Nat} (h : zLp a) : zsh a = (0, 3, 0) := by rcases h with rfl | rfl <;> decide +kernel
def zcode (z dx dy : Int32) : Int32 := 100 * z + 10 * (dx + 3) + dy + 3
theorem s_X3_code {G : zG} {w : zW} {a : Nat} (hLp : zLp a) : zEi G mX3_code [.ref a] w (zcode (w.1 a 0) (w.1 a 1) (w.1 a 2)) w := by
  refine zC_of (lo := [_]) kcX3_code (Nat.le_of_ble_eq_true rfl) rfl (fun X hX hE => ?_)
  refine zk_bipush (v := 100) hX dX3_code_0 (by decide) ?_
  refine zk_aload_n hX dX3_code_2 rfl ?_
  refine zk_getI hX dX3_code_3 flX3_9 (zLp_k hLp) (zLp_z hLp) ?_
  refine zk_imul hX dX3_code_6 ?_
  refine zk_bipush (v := 10) hX dX3_code_7 (by decide) ?_
  refine zk_aload_n hX dX3_code_9 rfl ?_
  refine zk_getI hX dX3_code_10 flX3_15 (zLp_k hLp) (zLp_z hLp) ?_
  refine zk_iconst (v := 3) hX dX3_code_13 (by decide) ?_
  refine zk_iadd hX dX3_code_14 ?_
  refine zk_imul hX dX3_code_15 ?_
  refine zk_iadd hX dX3_code_16 ?_
  refine zk_aload_n hX dX3_code_17 rfl ?_
  refine zk_getI hX dX3_code_18 flX3_18 (zLp_k hLp) (zLp_z hLp) ?_
  refine zk_iadd hX dX3_code_21 ?_
  refine zk_iconst (v := 3) hX dX3_code_22 (by decide) ?_
  refine zk_iadd hX dX3_code_23 ?_
  refine zk_iret hX hE rfl ⟨rfl, rfl⟩ dX3_code_24 ⟨_, rfl, ?_⟩
  exact ⟨rfl, rfl⟩
def zbecome (w : zW) (a : Nat) (z dx dy : Int32) : zW := zsi (zsi (zsi w a 0 z) a 1 dx) a 2 dy
theorem s_X3_become {G : zG} {w : zW} {a : Nat} (hLp : zLp a) (z dx dy : Int32) : zEv G mX3_become [.ref a, .int z, .int dx, .int dy] w (zbecome w a z dx dy) := by
  refine zC_of (lo := [_, _, _, _]) kcX3_become (Nat.le_of_ble_eq_true rfl) rfl (fun X hX hE => ?_)
  refine zk_aload_n hX dX3_become_0 rfl ?_
  refine zk_iload_n hX dX3_become_1 rfl ?_
  refine zk_putI hX dX3_become_2 plX3_9 (fun h => by cases h) (zLp_k hLp) (zLp_z hLp) rfl rfl ?_
  refine zk_aload_n hX dX3_become_5 rfl ?_
  refine zk_iload_n hX dX3_become_6 rfl ?_
  refine zk_putI hX dX3_become_7 plX3_15 (fun h => by cases h) (zLp_k hLp) (zLp_z hLp) rfl rfl ?_
  refine zk_aload_n hX dX3_become_10 rfl ?_
  refine zk_iload_n hX dX3_become_11 rfl ?_
  refine zk_putI hX dX3_become_12 plX3_18 (fun h => by cases h) (zLp_k hLp) (zLp_z hLp) rfl rfl ?_
  refine zk_vret hX hE rfl ⟨rfl, rfl⟩ dX3_become_15 ⟨rfl, ?_⟩
  rfl
theorem s_X12_lampNow {G : zG} {w : zW} : zEi G mX12_lampNow [.ref 166] w (zcode (w.1 166 25) (w.1 166 26) (w.1 166 27)) w := by
  refine zC_of (lo := [_]) kcX12_lampNow (Nat.le_of_ble_eq_true rfl) rfl (fun X hX hE => ?_)
  refine zk_bipush (v := 100) hX dX12_lampNow_0 (by decide) ?_
  refine zk_aload_n hX dX12_lampNow_2 rfl ?_
  refine zk_getI hX dX12_lampNow_3 flX12_125 k_166 z_166 ?_
  refine zk_imul hX dX12_lampNow_6 ?_
  refine zk_bipush (v := 10) hX dX12_lampNow_7 (by decide) ?_
  refine zk_aload_n hX dX12_lampNow_9 rfl ?_
  refine zk_getI hX dX12_lampNow_10 flX12_211 k_166 z_166 ?_
  refine zk_iconst (v := 3) hX dX12_lampNow_13 (by decide) ?_
  refine zk_iadd hX dX12_lampNow_14 ?_
  refine zk_imul hX dX12_lampNow_15 ?_
  refine zk_iadd hX dX12_lampNow_16 ?_
  refine zk_aload_n hX dX12_lampNow_17 rfl ?_
  refine zk_getI hX dX12_lampNow_18 flX12_214 k_166 z_166 ?_
  refine zk_iadd hX dX12_lampNow_21 ?_
  refine zk_iconst (v := 3) hX dX12_lampNow_22 (by decide) ?_
  refine zk_iadd hX dX12_lampNow_23 ?_
  refine zk_iret hX hE rfl ⟨rfl, rfl⟩ dX12_lampNow_24 ⟨_, rfl, ?_⟩
  exact ⟨rfl, rfl⟩
def mbecome (w : zW) (z dx dy : Int32) : zW := zsi (zsi (zsi w 166 25 z) 166 26 dx) 166 27 dy
theorem s_X12_layLamp {G : zG} {w : zW} (z dx dy : Int32) : zEv G mX12_layLamp [.ref 166, .int z, .int dx, .int dy] w (mbecome w z dx dy) := by
  refine zC_of (lo := [_, _, _, _]) kcX12_layLamp (Nat.le_of_ble_eq_true rfl) rfl (fun X hX hE => ?_)
  refine zk_aload_n hX dX12_layLamp_0 rfl ?_
  refine zk_iload_n hX dX12_layLamp_1 rfl ?_
  refine zk_putI hX dX12_layLamp_2 plX12_125 (fun h => by cases h) k_166 z_166 rfl rfl ?_
  refine zk_aload_n hX dX12_layLamp_5 rfl ?_
  refine zk_iload_n hX dX12_layLamp_6 rfl ?_
  refine zk_putI hX dX12_layLamp_7 plX12_211 (fun h => by cases h) k_166 z_166 rfl rfl ?_
  refine zk_aload_n hX dX12_layLamp_10 rfl ?_
  refine zk_iload_n hX dX12_layLamp_11 rfl ?_
  refine zk_putI hX dX12_layLamp_12 plX12_214 (fun h => by cases h) k_166 z_166 rfl rfl ?_
  refine zk_vret hX hE rfl ⟨rfl, rfl⟩ dX12_layLamp_15 ⟨rfl, ?_⟩
  rfl
def zlampOK (z dx dy : Int32) : Prop := (1 ≤ z ∧ z ≤ 2) ∧ (-3 ≤ dx ∧ dx ≤ 3) ∧ (-3 ≤ dy ∧ dy ≤ 3)
theorem s_X11_lamp_bad {G : zG} {w : zW} (z dx dy : Int32) (h : ¬ zlampOK z dx dy) : zEi G mX11_lamp [.ref 0, .int z, .int dx, .int dy] w (-1) w := by
  refine zC_of (lo := [_, _, _, _, _]) kcX11_lamp (Nat.le_of_ble_eq_true rfl) rfl (fun X hX hE => ?_)
  refine zk_iload_n hX dX11_lamp_0 rfl ?_
  refine zk_iconst (v := 1) hX dX11_lamp_1 (by decide) ?_
  refine zk_icmp_lt (tgt := 24) hX dX11_lamp_2 (by decide) (fun c2 => ?_) (fun c2 => ?_)
  · refine zk_iconst (v := -1) hX dX11_lamp_24 (by decide) ?_
    refine zk_iret hX hE rfl ⟨rfl, rfl⟩ dX11_lamp_25 ⟨_, rfl, ?_⟩
    exact ⟨rfl, rfl⟩
  · refine zk_iload_n hX dX11_lamp_5 rfl ?_
    refine zk_iconst (v := 2) hX dX11_lamp_6 (by decide) ?_
    refine zk_icmp_gt (tgt := 24) hX dX11_lamp_7 (by decide) (fun c7 => ?_) (fun c7 => ?_)
    · refine zk_iconst (v := -1) hX dX11_lamp_24 (by decide) ?_
      refine zk_iret hX hE rfl ⟨rfl, rfl⟩ dX11_lamp_25 ⟨_, rfl, ?_⟩
      exact ⟨rfl, rfl⟩
    · refine zk_iload_n hX dX11_lamp_10 rfl ?_
      refine zk_S1i hX dX11_lamp_11 kcX11_isShift mlX11_198 smX11_isShift rfl (s_X11_isShift _) (Nat.le_of_ble_eq_true rfl) rfl ?_
      refine zk_if_eqB (tgt := 24) hX dX11_lamp_14 (by decide) (fun c14 => ?_) (fun c14 => ?_)
      · refine zk_iconst (v := -1) hX dX11_lamp_24 (by decide) ?_
        refine zk_iret hX hE rfl ⟨rfl, rfl⟩ dX11_lamp_25 ⟨_, rfl, ?_⟩
        exact ⟨rfl, rfl⟩
      · refine zk_iload_n hX dX11_lamp_17 rfl ?_
        refine zk_S1i hX dX11_lamp_18 kcX11_isShift mlX11_198 smX11_isShift rfl (s_X11_isShift _) (Nat.le_of_ble_eq_true rfl) rfl ?_
        refine zk_if_neB (tgt := 26) hX dX11_lamp_21 (by decide) (fun c21 => ?_) (fun c21 => ?_)
        · exact absurd c21 (fun c => h ⟨⟨by grind, by grind⟩, c14, c⟩)
        refine zk_iconst (v := -1) hX dX11_lamp_24 (by decide) ?_
        refine zk_iret hX hE rfl ⟨rfl, rfl⟩ dX11_lamp_25 ⟨_, rfl, ?_⟩
        exact ⟨rfl, rfl⟩
theorem s_X11_lamp {G : zG} {w : zW} (hw : zWf w) (z dx dy : Int32) (h : zlampOK z dx dy) : zEi G mX11_lamp [.ref 0, .int z, .int dx, .int dy] w (zcode (w.1 44 0) (w.1 44 1) (w.1 44 2)) (zbecome w 44 z dx dy) := by
  refine zC_of (lo := [_, _, _, _, _]) kcX11_lamp (Nat.le_of_ble_eq_true rfl) rfl (fun X hX hE => ?_)
  refine zk_iload_n hX dX11_lamp_0 rfl ?_
  refine zk_iconst (v := 1) hX dX11_lamp_1 (by decide) ?_
  refine zk_icmp_lt (tgt := 24) hX dX11_lamp_2 (by decide) (fun c2 => ?_) (fun c2 => ?_)
  · exact absurd c2 (by have := h.1.1; grind)
  refine zk_iload_n hX dX11_lamp_5 rfl ?_
  refine zk_iconst (v := 2) hX dX11_lamp_6 (by decide) ?_
  refine zk_icmp_gt (tgt := 24) hX dX11_lamp_7 (by decide) (fun c7 => ?_) (fun c7 => ?_)
  · exact absurd c7 (by have := h.1.2; grind)
  refine zk_iload_n hX dX11_lamp_10 rfl ?_
  refine zk_S1i hX dX11_lamp_11 kcX11_isShift mlX11_198 smX11_isShift rfl (s_X11_isShift _) (Nat.le_of_ble_eq_true rfl) rfl ?_
  refine zk_if_eqB (tgt := 24) hX dX11_lamp_14 (by decide) (fun c14 => ?_) (fun c14 => ?_)
  · exact absurd c14 (not_not_intro h.2.1)
  refine zk_iload_n hX dX11_lamp_17 rfl ?_
  refine zk_S1i hX dX11_lamp_18 kcX11_isShift mlX11_198 smX11_isShift rfl (s_X11_isShift _) (Nat.le_of_ble_eq_true rfl) rfl ?_
  refine zk_if_neB (tgt := 26) hX dX11_lamp_21 (by decide) (fun c21 => ?_) (fun c21 => ?_)
  rotate_left
  · exact absurd h.2.2 c21
  refine zk_aload_n hX dX11_lamp_26 rfl ?_
  refine zk_getR hX dX11_lamp_27 flX11_48 k_0 z_0 (hw _ _ (by decide) |>.trans r_0_6) ?_
  refine zk_V0i hX dX11_lamp_30 kcX3_code mlX11_201 viX3_code rfl k_44 z_44 (s_X3_code (Or.inl rfl)) (Nat.le_of_ble_eq_true rfl) rfl ?_
  refine zk_istore (lo' := [_, _, _, _, _]) hX dX11_lamp_33 (Nat.le_of_ble_eq_true rfl) rfl rfl ?_
  refine zk_aload_n hX dX11_lamp_35 rfl ?_
  refine zk_getR hX dX11_lamp_36 flX11_48 k_0 z_0 (hw _ _ (by decide) |>.trans r_0_6) ?_
  refine zk_iload_n hX dX11_lamp_39 rfl ?_
  refine zk_iload_n hX dX11_lamp_40 rfl ?_
  refine zk_iload_n hX dX11_lamp_41 rfl ?_
  refine zk_V3v hX dX11_lamp_42 kcX3_become mlX11_205 viX3_become rfl k_44 z_44 (s_X3_become (Or.inl rfl) _ _ _) (Nat.le_of_ble_eq_true rfl) rfl ?_
  refine zk_iload hX dX11_lamp_45 rfl ?_
  refine zk_iret hX hE rfl ⟨rfl, rfl⟩ dX11_lamp_47 ⟨_, rfl, ?_⟩
  exact ⟨rfl, rfl⟩
theorem s_X12_lamp_bad {G : zG} {w : zW} (z dx dy : Int32) (h : ¬ zlampOK z dx dy) : zEi G mX12_lamp [.ref 166, .int z, .int dx, .int dy] w (-1) w := by
  refine zC_of (lo := [_, _, _, _, _]) kcX12_lamp (Nat.le_of_ble_eq_true rfl) rfl (fun X hX hE => ?_)
  refine zk_iload_n hX dX12_lamp_0 rfl ?_
  refine zk_iconst (v := 1) hX dX12_lamp_1 (by decide) ?_
  refine zk_iconst (v := 2) hX dX12_lamp_2 (by decide) ?_
  refine zk_S3i hX dX12_lamp_3 kcX12_in mlX12_131 smX12_in rfl (s_X12_in _ _ _) (Nat.le_of_ble_eq_true rfl) rfl ?_
  refine zk_if_eqB (tgt := 29) hX dX12_lamp_6 (by decide) (fun c6 => ?_) (fun c6 => ?_)
  · refine zk_iconst (v := -1) hX dX12_lamp_29 (by decide) ?_
    refine zk_iret hX hE rfl ⟨rfl, rfl⟩ dX12_lamp_30 ⟨_, rfl, ?_⟩
    exact ⟨rfl, rfl⟩
  · refine zk_iload_n hX dX12_lamp_9 rfl ?_
    refine zk_bipush (v := -3) hX dX12_lamp_10 (by decide) ?_
    refine zk_iconst (v := 3) hX dX12_lamp_12 (by decide) ?_
    refine zk_S3i hX dX12_lamp_13 kcX12_in mlX12_131 smX12_in rfl (s_X12_in _ _ _) (Nat.le_of_ble_eq_true rfl) rfl ?_
    refine zk_if_eqB (tgt := 29) hX dX12_lamp_16 (by decide) (fun c16 => ?_) (fun c16 => ?_)
    · refine zk_iconst (v := -1) hX dX12_lamp_29 (by decide) ?_
      refine zk_iret hX hE rfl ⟨rfl, rfl⟩ dX12_lamp_30 ⟨_, rfl, ?_⟩
      exact ⟨rfl, rfl⟩
    · refine zk_iload_n hX dX12_lamp_19 rfl ?_
      refine zk_bipush (v := -3) hX dX12_lamp_20 (by decide) ?_
      refine zk_iconst (v := 3) hX dX12_lamp_22 (by decide) ?_
      refine zk_S3i hX dX12_lamp_23 kcX12_in mlX12_131 smX12_in rfl (s_X12_in _ _ _) (Nat.le_of_ble_eq_true rfl) rfl ?_
      refine zk_if_neB (tgt := 31) hX dX12_lamp_26 (by decide) (fun c26 => ?_) (fun c26 => ?_)
      · exact absurd c26 (fun c => h ⟨c6, c16, c⟩)
      refine zk_iconst (v := -1) hX dX12_lamp_29 (by decide) ?_
      refine zk_iret hX hE rfl ⟨rfl, rfl⟩ dX12_lamp_30 ⟨_, rfl, ?_⟩
      exact ⟨rfl, rfl⟩
theorem s_X12_lamp {G : zG} {w : zW} (z dx dy : Int32) (h : zlampOK z dx dy) : zEi G mX12_lamp [.ref 166, .int z, .int dx, .int dy] w (zcode (w.1 166 25) (w.1 166 26) (w.1 166 27)) (mbecome w z dx dy) := by
  refine zC_of (lo := [_, _, _, _, _]) kcX12_lamp (Nat.le_of_ble_eq_true rfl) rfl (fun X hX hE => ?_)
  refine zk_iload_n hX dX12_lamp_0 rfl ?_
  refine zk_iconst (v := 1) hX dX12_lamp_1 (by decide) ?_
  refine zk_iconst (v := 2) hX dX12_lamp_2 (by decide) ?_
  refine zk_S3i hX dX12_lamp_3 kcX12_in mlX12_131 smX12_in rfl (s_X12_in _ _ _) (Nat.le_of_ble_eq_true rfl) rfl ?_
  refine zk_if_eqB (tgt := 29) hX dX12_lamp_6 (by decide) (fun c6 => ?_) (fun c6 => ?_)
  · exact absurd c6 (not_not_intro h.1)
  refine zk_iload_n hX dX12_lamp_9 rfl ?_
  refine zk_bipush (v := -3) hX dX12_lamp_10 (by decide) ?_
  refine zk_iconst (v := 3) hX dX12_lamp_12 (by decide) ?_
  refine zk_S3i hX dX12_lamp_13 kcX12_in mlX12_131 smX12_in rfl (s_X12_in _ _ _) (Nat.le_of_ble_eq_true rfl) rfl ?_
  refine zk_if_eqB (tgt := 29) hX dX12_lamp_16 (by decide) (fun c16 => ?_) (fun c16 => ?_)
  · exact absurd c16 (not_not_intro h.2.1)
  refine zk_iload_n hX dX12_lamp_19 rfl ?_
  refine zk_bipush (v := -3) hX dX12_lamp_20 (by decide) ?_
  refine zk_iconst (v := 3) hX dX12_lamp_22 (by decide) ?_
  refine zk_S3i hX dX12_lamp_23 kcX12_in mlX12_131 smX12_in rfl (s_X12_in _ _ _) (Nat.le_of_ble_eq_true rfl) rfl ?_
  refine zk_if_neB (tgt := 31) hX dX12_lamp_26 (by decide) (fun c26 => ?_) (fun c26 => ?_)
  rotate_left
  · exact absurd h.2.2 c26
  refine zk_aload_n hX dX12_lamp_31 rfl ?_
  refine zk_V0i hX dX12_lamp_32 kcX12_lampNow mlX12_217 viX12_lampNow rfl k_166 z_166 s_X12_lampNow (Nat.le_of_ble_eq_true rfl) rfl ?_
  refine zk_istore (lo' := [_, _, _, _, _]) hX dX12_lamp_35 (Nat.le_of_ble_eq_true rfl) rfl rfl ?_
  refine zk_aload_n hX dX12_lamp_37 rfl ?_
  refine zk_iload_n hX dX12_lamp_38 rfl ?_
  refine zk_iload_n hX dX12_lamp_39 rfl ?_
  refine zk_iload_n hX dX12_lamp_40 rfl ?_
  refine zk_V3v hX dX12_lamp_41 kcX12_layLamp mlX12_221 viX12_layLamp rfl k_166 z_166 (s_X12_layLamp _ _ _) (Nat.le_of_ble_eq_true rfl) rfl ?_
  refine zk_iload hX dX12_lamp_44 rfl ?_
  refine zk_iret hX hE rfl ⟨rfl, rfl⟩ dX12_lamp_46 ⟨_, rfl, ?_⟩
  exact ⟨rfl, rfl⟩
/-! lookers -/
theorem s_X4_add {G : zG} {w : zW} (hw : zWf w) {n : Nat} (hn : n < 8) (h : w.1 114 0 = nI n) (e a d : Int32) : zEi G mX4_add [.ref 114, .int e, .int a, .int d] w (nI n) (zsi (zsi (zsi (zsi w (116 + n) 0 e) (116 + n) 1 a) (116 + n) 2 d) 114 0 (nI (n + 1))) := by
  refine zC_of (lo := [_, _, _, _]) kcX4_add (Nat.le_of_ble_eq_true rfl) rfl (fun X hX hE => ?_)
  refine zk_aload_n hX dX4_add_0 rfl ?_
  refine zk_getI hX dX4_add_1 flX4_38 k_114 z_114 ?_
  rw [h]
  refine zk_bipush (v := 8) hX dX4_add_4 (by decide) ?_
  refine zk_icmp_lt (tgt := 12) hX dX4_add_6 (by decide) (fun c6 => ?_) (fun c6 => ?_)
  rotate_left
  · exact absurd (nI_lt (b := 8) hn (by decide)) c6
  refine zk_aload_n hX dX4_add_12 rfl ?_
  refine zk_getR hX dX4_add_13 flX4_11 k_114 z_114 (hw _ _ (by decide) |>.trans r_114_1) ?_
  refine zk_aload_n hX dX4_add_16 rfl ?_
  refine zk_getI hX dX4_add_17 flX4_38 k_114 z_114 ?_
  rw [h]
  refine zk_weights hX hw dX4_add_20 rfl (by first | assumption | omega) ?_
  refine zk_iconst (v := 0) hX dX4_add_21 (by decide) ?_
  refine zk_iload_n hX dX4_add_22 rfl ?_
  refine zk_iastE hX dX4_add_23 (nI_k 0 rfl) (zWrk (by first | assumption | omega)) (zWrz _ (by first | assumption | omega)) (by first | assumption | omega) rfl ?_
  refine zk_aload_n hX dX4_add_24 rfl ?_
  refine zk_getR hX dX4_add_25 flX4_11 k_114 z_114 ((zWf_i hw) _ _ (by decide) |>.trans r_114_1) ?_
  refine zk_aload_n hX dX4_add_28 rfl ?_
  refine zk_getI hX dX4_add_29 flX4_38 k_114 z_114 ?_
  rw [show (zsi w (116 + n) 0 e).1 114 0 = nI n by rw [zsi_1, if_neg (by omega), h]]
  refine zk_weights hX (zWf_i hw) dX4_add_32 rfl (by first | assumption | omega) ?_
  refine zk_iconst (v := 1) hX dX4_add_33 (by decide) ?_
  refine zk_iload_n hX dX4_add_34 rfl ?_
  refine zk_iastE hX dX4_add_35 (nI_k 1 rfl) (zWrk (by first | assumption | omega)) (zWrz _ (by first | assumption | omega)) (by first | assumption | omega) rfl ?_
  refine zk_aload_n hX dX4_add_36 rfl ?_
  refine zk_getR hX dX4_add_37 flX4_11 k_114 z_114 ((zWf_i (zWf_i hw)) _ _ (by decide) |>.trans r_114_1) ?_
  refine zk_aload_n hX dX4_add_40 rfl ?_
  refine zk_getI hX dX4_add_41 flX4_38 k_114 z_114 ?_
  rw [show (zsi (zsi w (116 + n) 0 e) (116 + n) 1 a).1 114 0 = nI n by rw [zsi_1, if_neg (by omega), zsi_1, if_neg (by omega), h]]
  refine zk_weights hX (zWf_i (zWf_i hw)) dX4_add_44 rfl (by first | assumption | omega) ?_
  refine zk_iconst (v := 2) hX dX4_add_45 (by decide) ?_
  refine zk_iload_n hX dX4_add_46 rfl ?_
  refine zk_iastE hX dX4_add_47 (nI_k 2 rfl) (zWrk (by first | assumption | omega)) (zWrz _ (by first | assumption | omega)) (by first | assumption | omega) rfl ?_
  refine zk_aload_n hX dX4_add_48 rfl ?_
  refine zk_dup hX dX4_add_49 rfl ?_
  refine zk_getI hX dX4_add_50 flX4_38 k_114 z_114 ?_
  rw [show (zsi (zsi (zsi w (116 + n) 0 e) (116 + n) 1 a) (116 + n) 2 d).1 114 0 = nI n by rw [zsi_1, if_neg (by omega), zsi_1, if_neg (by omega), zsi_1, if_neg (by omega), h]]
  refine zk_iconst (v := 1) hX dX4_add_53 (by decide) ?_
  refine zk_iadd hX dX4_add_54 ?_
  rw [← nI_succ]
  refine zk_putI hX dX4_add_55 plX4_38 (fun h => by cases h) k_114 z_114 rfl rfl ?_
  refine zk_aload_n hX dX4_add_58 rfl ?_
  refine zk_getI hX dX4_add_59 flX4_38 k_114 z_114 ?_
  refine zk_iconst (v := 1) hX dX4_add_62 (by decide) ?_
  refine zk_isub hX dX4_add_63 ?_
  refine zk_iret hX hE rfl ⟨rfl, rfl⟩ dX4_add_64 ⟨_, rfl, ?_⟩
  exact ⟨by rw [zsi_1, if_pos ⟨rfl, rfl⟩, nI_pred], rfl⟩
theorem s_X11_looker_bad {G : zG} {w : zW} (e a d : Int32) (h : ¬ ((0 ≤ e ∧ e ≤ 9) ∧ (0 ≤ a ∧ a ≤ 9) ∧ (0 ≤ d ∧ d ≤ 9))) : zEi G mX11_looker [.ref 0, .int e, .int a, .int d] w (-1) w := by
  refine zC_of (lo := [_, _, _, _]) kcX11_looker (Nat.le_of_ble_eq_true rfl) rfl (fun X hX hE => ?_)
  refine zk_iload_n hX dX11_looker_0 rfl ?_
  refine zk_S1i hX dX11_looker_1 kcX11_isWeight mlX11_405 smX11_isWeight rfl (s_X11_isWeight _) (Nat.le_of_ble_eq_true rfl) rfl ?_
  refine zk_if_eqB (tgt := 21) hX dX11_looker_4 (by decide) (fun c4 => ?_) (fun c4 => ?_)
  · refine zk_iconst (v := -1) hX dX11_looker_21 (by decide) ?_
    refine zk_iret hX hE rfl ⟨rfl, rfl⟩ dX11_looker_22 ⟨_, rfl, ?_⟩
    exact ⟨rfl, rfl⟩
  · refine zk_iload_n hX dX11_looker_7 rfl ?_
    refine zk_S1i hX dX11_looker_8 kcX11_isWeight mlX11_405 smX11_isWeight rfl (s_X11_isWeight _) (Nat.le_of_ble_eq_true rfl) rfl ?_
    refine zk_if_eqB (tgt := 21) hX dX11_looker_11 (by decide) (fun c11 => ?_) (fun c11 => ?_)
    · refine zk_iconst (v := -1) hX dX11_looker_21 (by decide) ?_
      refine zk_iret hX hE rfl ⟨rfl, rfl⟩ dX11_looker_22 ⟨_, rfl, ?_⟩
      exact ⟨rfl, rfl⟩
    · refine zk_iload_n hX dX11_looker_14 rfl ?_
      refine zk_S1i hX dX11_looker_15 kcX11_isWeight mlX11_405 smX11_isWeight rfl (s_X11_isWeight _) (Nat.le_of_ble_eq_true rfl) rfl ?_
      refine zk_if_neB (tgt := 23) hX dX11_looker_18 (by decide) (fun c18 => ?_) (fun c18 => ?_)
      · exact absurd c18 (fun c => h ⟨c4, c11, c⟩)
      refine zk_iconst (v := -1) hX dX11_looker_21 (by decide) ?_
      refine zk_iret hX hE rfl ⟨rfl, rfl⟩ dX11_looker_22 ⟨_, rfl, ?_⟩
      exact ⟨rfl, rfl⟩
def c_looker (w : zW) (n : Nat) (e a d : Int32) : Int32 × zW := if n < 8 then (nI n, zsi (zsi (zsi (zsi w (116 + n) 0 e) (116 + n) 1 a) (116 + n) 2 d) 114 0 (nI (n + 1))) else (-2, w)
theorem s_X11_looker {G : zG} {w : zW} (hw : zWf w) {n : Nat} (hn : n ≤ 8) (hN : w.1 114 0 = nI n) (e a d : Int32) (h : (0 ≤ e ∧ e ≤ 9) ∧ (0 ≤ a ∧ a ≤ 9) ∧ (0 ≤ d ∧ d ≤ 9)) : zFi G mX11_looker [.ref 0, .int e, .int a, .int d] w (c_looker w n e a d) := by
  refine zC_of (lo := [_, _, _, _]) kcX11_looker (Nat.le_of_ble_eq_true rfl) rfl (fun X hX hE => ?_)
  refine zk_iload_n hX dX11_looker_0 rfl ?_
  refine zk_S1i hX dX11_looker_1 kcX11_isWeight mlX11_405 smX11_isWeight rfl (s_X11_isWeight _) (Nat.le_of_ble_eq_true rfl) rfl ?_
  refine zk_if_eqB (tgt := 21) hX dX11_looker_4 (by decide) (fun c4 => ?_) (fun c4 => ?_)
  · exact absurd c4 (not_not_intro h.1)
  refine zk_iload_n hX dX11_looker_7 rfl ?_
  refine zk_S1i hX dX11_looker_8 kcX11_isWeight mlX11_405 smX11_isWeight rfl (s_X11_isWeight _) (Nat.le_of_ble_eq_true rfl) rfl ?_
  refine zk_if_eqB (tgt := 21) hX dX11_looker_11 (by decide) (fun c11 => ?_) (fun c11 => ?_)
  · exact absurd c11 (not_not_intro h.2.1)
  refine zk_iload_n hX dX11_looker_14 rfl ?_
  refine zk_S1i hX dX11_looker_15 kcX11_isWeight mlX11_405 smX11_isWeight rfl (s_X11_isWeight _) (Nat.le_of_ble_eq_true rfl) rfl ?_
  refine zk_if_neB (tgt := 23) hX dX11_looker_18 (by decide) (fun c18 => ?_) (fun c18 => ?_)
  rotate_left
  · exact absurd h.2.2 c18
  refine zk_aload_n hX dX11_looker_23 rfl ?_
  refine zk_getR hX dX11_looker_24 flX11_76 k_0 z_0 (hw _ _ (by decide) |>.trans r_0_12) ?_
  refine zk_getI hX dX11_looker_27 flX11_408 k_114 z_114 ?_
  rw [hN]
  refine zk_bipush (v := 8) hX dX11_looker_30 (by decide) ?_
  refine zk_icmp_lt (tgt := 38) hX dX11_looker_32 (by decide) (fun c32 => ?_) (fun c32 => ?_)
  · have hn8 : n < 8 := (nI_ltI (b := 8) (by omega) (by decide)).mp c32
    refine zk_aload_n hX dX11_looker_38 rfl ?_
    refine zk_getR hX dX11_looker_39 flX11_76 k_0 z_0 (hw _ _ (by decide) |>.trans r_0_12) ?_
    refine zk_iload_n hX dX11_looker_42 rfl ?_
    refine zk_iload_n hX dX11_looker_43 rfl ?_
    refine zk_iload_n hX dX11_looker_44 rfl ?_
    refine zk_V3i hX dX11_looker_45 kcX4_add mlX11_410 viX4_add rfl k_114 z_114 (s_X4_add hw hn8 hN _ _ _) (Nat.le_of_ble_eq_true rfl) rfl ?_
    refine zk_iret hX hE rfl ⟨rfl, rfl⟩ dX11_looker_48 ⟨_, rfl, ?_⟩
    unfold c_looker; rw [if_pos hn8]; exact ⟨rfl, rfl⟩
  · refine zk_bipush (v := -2) hX dX11_looker_35 (by decide) ?_
    refine zk_iret hX hE rfl ⟨rfl, rfl⟩ dX11_looker_37 ⟨_, rfl, ?_⟩
    unfold c_looker; rw [if_neg (fun q => c32 (nI_lt (b := 8) q (by decide)))]; exact ⟨rfl, rfl⟩
theorem s_X12_looker_bad {G : zG} {w : zW} (e a d : Int32) (h : ¬ ((0 ≤ e ∧ e ≤ 9) ∧ (0 ≤ a ∧ a ≤ 9) ∧ (0 ≤ d ∧ d ≤ 9))) : zEi G mX12_looker [.ref 166, .int e, .int a, .int d] w (-1) w := by
  refine zC_of (lo := [_, _, _, _]) kcX12_looker (Nat.le_of_ble_eq_true rfl) rfl (fun X hX hE => ?_)
  refine zk_iload_n hX dX12_looker_0 rfl ?_
  refine zk_iconst (v := 0) hX dX12_looker_1 (by decide) ?_
  refine zk_bipush (v := 9) hX dX12_looker_2 (by decide) ?_
  refine zk_S3i hX dX12_looker_4 kcX12_in mlX12_131 smX12_in rfl (s_X12_in _ _ _) (Nat.le_of_ble_eq_true rfl) rfl ?_
  refine zk_if_eqB (tgt := 30) hX dX12_looker_7 (by decide) (fun c7 => ?_) (fun c7 => ?_)
  · refine zk_iconst (v := -1) hX dX12_looker_30 (by decide) ?_
    refine zk_iret hX hE rfl ⟨rfl, rfl⟩ dX12_looker_31 ⟨_, rfl, ?_⟩
    exact ⟨rfl, rfl⟩
  · refine zk_iload_n hX dX12_looker_10 rfl ?_
    refine zk_iconst (v := 0) hX dX12_looker_11 (by decide) ?_
    refine zk_bipush (v := 9) hX dX12_looker_12 (by decide) ?_
    refine zk_S3i hX dX12_looker_14 kcX12_in mlX12_131 smX12_in rfl (s_X12_in _ _ _) (Nat.le_of_ble_eq_true rfl) rfl ?_
    refine zk_if_eqB (tgt := 30) hX dX12_looker_17 (by decide) (fun c17 => ?_) (fun c17 => ?_)
    · refine zk_iconst (v := -1) hX dX12_looker_30 (by decide) ?_
      refine zk_iret hX hE rfl ⟨rfl, rfl⟩ dX12_looker_31 ⟨_, rfl, ?_⟩
      exact ⟨rfl, rfl⟩
    · refine zk_iload_n hX dX12_looker_20 rfl ?_
      refine zk_iconst (v := 0) hX dX12_looker_21 (by decide) ?_
      refine zk_bipush (v := 9) hX dX12_looker_22 (by decide) ?_
      refine zk_S3i hX dX12_looker_24 kcX12_in mlX12_131 smX12_in rfl (s_X12_in _ _ _) (Nat.le_of_ble_eq_true rfl) rfl ?_
      refine zk_if_neB (tgt := 32) hX dX12_looker_27 (by decide) (fun c27 => ?_) (fun c27 => ?_)
      · exact absurd c27 (fun c => h ⟨c7, c17, c⟩)
      refine zk_iconst (v := -1) hX dX12_looker_30 (by decide) ?_
      refine zk_iret hX hE rfl ⟨rfl, rfl⟩ dX12_looker_31 ⟨_, rfl, ?_⟩
      exact ⟨rfl, rfl⟩
def m_looker (w : zW) (n : Nat) (e a d : Int32) : Int32 × zW := if n < 8 then (nI n, zsi (zsi (zsi (zsi w 200 (3 * n) e) 200 (3 * n + 1) a) 200 (3 * n + 2) d) 166 53 (nI (n + 1))) else (-2, w)
theorem s_X12_looker {G : zG} {w : zW} (hw : zWf w) {n : Nat} (hn : n ≤ 8) (hN : w.1 166 53 = nI n) (e a d : Int32) (h : (0 ≤ e ∧ e ≤ 9) ∧ (0 ≤ a ∧ a ≤ 9) ∧ (0 ≤ d ∧ d ≤ 9)) : zFi G mX12_looker [.ref 166, .int e, .int a, .int d] w (m_looker w n e a d) := by
  refine zC_of (lo := [_, _, _, _]) kcX12_looker (Nat.le_of_ble_eq_true rfl) rfl (fun X hX hE => ?_)
  refine zk_iload_n hX dX12_looker_0 rfl ?_
  refine zk_iconst (v := 0) hX dX12_looker_1 (by decide) ?_
  refine zk_bipush (v := 9) hX dX12_looker_2 (by decide) ?_
  refine zk_S3i hX dX12_looker_4 kcX12_in mlX12_131 smX12_in rfl (s_X12_in _ _ _) (Nat.le_of_ble_eq_true rfl) rfl ?_
  refine zk_if_eqB (tgt := 30) hX dX12_looker_7 (by decide) (fun c7 => ?_) (fun c7 => ?_)
  · exact absurd c7 (not_not_intro h.1)
  refine zk_iload_n hX dX12_looker_10 rfl ?_
  refine zk_iconst (v := 0) hX dX12_looker_11 (by decide) ?_
  refine zk_bipush (v := 9) hX dX12_looker_12 (by decide) ?_
  refine zk_S3i hX dX12_looker_14 kcX12_in mlX12_131 smX12_in rfl (s_X12_in _ _ _) (Nat.le_of_ble_eq_true rfl) rfl ?_
  refine zk_if_eqB (tgt := 30) hX dX12_looker_17 (by decide) (fun c17 => ?_) (fun c17 => ?_)
  · exact absurd c17 (not_not_intro h.2.1)
  refine zk_iload_n hX dX12_looker_20 rfl ?_
  refine zk_iconst (v := 0) hX dX12_looker_21 (by decide) ?_
  refine zk_bipush (v := 9) hX dX12_looker_22 (by decide) ?_
  refine zk_S3i hX dX12_looker_24 kcX12_in mlX12_131 smX12_in rfl (s_X12_in _ _ _) (Nat.le_of_ble_eq_true rfl) rfl ?_
  refine zk_if_neB (tgt := 32) hX dX12_looker_27 (by decide) (fun c27 => ?_) (fun c27 => ?_)
  rotate_left
  · exact absurd h.2.2 c27
  refine zk_aload_n hX dX12_looker_32 rfl ?_
  refine zk_getI hX dX12_looker_33 flX12_381 k_166 z_166 ?_
  rw [hN]
  refine zk_bipush (v := 8) hX dX12_looker_36 (by decide) ?_
  refine zk_icmp_ne (tgt := 44) hX dX12_looker_38 (by decide) (fun c38 => ?_) (fun c38 => ?_)
  · have hn8 : n < 8 := by
      rcases Nat.lt_or_ge n 8 with q | q
      · exact q
      · exact absurd (show nI n = 8 by rw [show n = 8 by omega]; rfl) c38
    refine zk_aload_n hX dX12_looker_44 rfl ?_
    refine zk_getR hX dX12_looker_45 flX12_111 k_166 z_166 (hw _ _ (by decide) |>.trans r_166_54) ?_
    refine zk_iconst (v := 3) hX dX12_looker_48 (by decide) ?_
    refine zk_aload_n hX dX12_looker_49 rfl ?_
    refine zk_getI hX dX12_looker_50 flX12_381 k_166 z_166 ?_
    rw [hN]
    refine zk_imul hX dX12_looker_53 ?_
    refine zk_iload_n hX dX12_looker_54 rfl ?_
    refine zk_iastE hX dX12_looker_55 (nI_mulE (nI_k 3 rfl) rfl) k_200 z_200 (by first | assumption | omega) rfl ?_
    refine zk_aload_n hX dX12_looker_56 rfl ?_
    refine zk_getR hX dX12_looker_57 flX12_111 k_166 z_166 ((zWf_i hw) _ _ (by decide) |>.trans r_166_54) ?_
    refine zk_iconst (v := 3) hX dX12_looker_60 (by decide) ?_
    refine zk_aload_n hX dX12_looker_61 rfl ?_
    refine zk_getI hX dX12_looker_62 flX12_381 k_166 z_166 ?_
    rw [show (zsi w 200 (3 * n) e).1 166 53 = nI n by rw [zsi_1, if_neg (by omega), hN]]
    refine zk_imul hX dX12_looker_65 ?_
    refine zk_iconst (v := 1) hX dX12_looker_66 (by decide) ?_
    refine zk_iadd hX dX12_looker_67 ?_
    refine zk_iload_n hX dX12_looker_68 rfl ?_
    refine zk_iastE hX dX12_looker_69 (nI_addE (nI_mulE (nI_k 3 rfl) rfl) (nI_k 1 rfl)) k_200 z_200 (by first | assumption | omega) rfl ?_
    refine zk_aload_n hX dX12_looker_70 rfl ?_
    refine zk_getR hX dX12_looker_71 flX12_111 k_166 z_166 ((zWf_i (zWf_i hw)) _ _ (by decide) |>.trans r_166_54) ?_
    refine zk_iconst (v := 3) hX dX12_looker_74 (by decide) ?_
    refine zk_aload_n hX dX12_looker_75 rfl ?_
    refine zk_getI hX dX12_looker_76 flX12_381 k_166 z_166 ?_
    rw [show (zsi (zsi w 200 (3 * n) e) 200 (3 * n + 1) a).1 166 53 = nI n by rw [zsi_1, if_neg (by omega), zsi_1, if_neg (by omega), hN]]
    refine zk_imul hX dX12_looker_79 ?_
    refine zk_iconst (v := 2) hX dX12_looker_80 (by decide) ?_
    refine zk_iadd hX dX12_looker_81 ?_
    refine zk_iload_n hX dX12_looker_82 rfl ?_
    refine zk_iastE hX dX12_looker_83 (nI_addE (nI_mulE (nI_k 3 rfl) rfl) (nI_k 2 rfl)) k_200 z_200 (by first | assumption | omega) rfl ?_
    refine zk_aload_n hX dX12_looker_84 rfl ?_
    refine zk_dup hX dX12_looker_85 rfl ?_
    refine zk_getI hX dX12_looker_86 flX12_381 k_166 z_166 ?_
    rw [show (zsi (zsi (zsi w 200 (3 * n) e) 200 (3 * n + 1) a) 200 (3 * n + 2) d).1 166 53 = nI n by rw [zsi_1, if_neg (by omega), zsi_1, if_neg (by omega), zsi_1, if_neg (by omega), hN]]
    refine zk_iconst (v := 1) hX dX12_looker_89 (by decide) ?_
    refine zk_iadd hX dX12_looker_90 ?_
    rw [← nI_succ]
    refine zk_putI hX dX12_looker_91 plX12_381 (fun h => by cases h) k_166 z_166 rfl rfl ?_
    refine zk_aload_n hX dX12_looker_94 rfl ?_
    refine zk_getI hX dX12_looker_95 flX12_381 k_166 z_166 ?_
    refine zk_iconst (v := 1) hX dX12_looker_98 (by decide) ?_
    refine zk_isub hX dX12_looker_99 ?_
    refine zk_iret hX hE rfl ⟨rfl, rfl⟩ dX12_looker_100 ⟨_, rfl, ?_⟩
    unfold m_looker; rw [if_pos hn8]; exact ⟨by rw [zsi_1, if_pos ⟨rfl, rfl⟩, nI_pred], rfl⟩
  · refine zk_bipush (v := -2) hX dX12_looker_41 (by decide) ?_
    refine zk_iret hX hE rfl ⟨rfl, rfl⟩ dX12_looker_43 ⟨_, rfl, ?_⟩
    unfold m_looker; rw [if_neg (fun q => by have h9 : nI n = nI 8 := c38; rw [nI_eq (by omega) (by decide)] at h9; omega)]; exact ⟨rfl, rfl⟩
