theorem zBez : ∀ k, k < 6 → (zsh (96 + 3 * k) = (0, 0, 0) ∧ zsh (97 + 3 * k) = (0, 1, 0) ∧ zsh (98 + 3 * k) = (0, 1, 0) ∧ zref (96 + 3 * k) 0 = some (97 + 3 * k) ∧ zref (96 + 3 * k) 1 = some (98 + 3 * k)) := by decide +kernel
theorem zBek {k : Nat} (h : k < 6) : 96 + 3 * k < zN := by unfold zN; omega
theorem zPoz : ∀ p, p < 12 → (zsh (47 + 4 * p) = (0, 5, 0) ∧ zsh (48 + 4 * p) = (1, 0, 6) ∧ zsh (49 + 4 * p) = (0, 1, 0) ∧ zsh (50 + 4 * p) = (0, 1, 0) ∧ zref (47 + 4 * p) 0 = some (48 + 4 * p) ∧ zref (47 + 4 * p) 1 = some (49 + 4 * p) ∧ zref (47 + 4 * p) 2 = some (50 + 4 * p)) := by decide +kernel
theorem zPok {p : Nat} (h : p < 12) : 47 + 4 * p < zN := by unfold zN; omega
theorem s_X11_asked {G : zG} {w : zW} (hw : zWf w) : zEi G mX11_asked [.ref 0] w (w.1 1 0) w := by
  refine zC_of (lo := [_]) kcX11_asked (Nat.le_of_ble_eq_true rfl) rfl (fun X hX hE => ?_)
  refine zk_aload_n hX dX11_asked_0 rfl ?_
  refine zk_getR hX dX11_asked_1 flX11_12 k_0 z_0 (hw _ _ (by decide) |>.trans r_0_0) ?_
  refine zk_getI hX dX11_asked_4 flX11_467 k_1 z_1 ?_
  refine zk_iret hX hE rfl ⟨rfl, rfl⟩ dX11_asked_7 ⟨_, rfl, ?_⟩
  exact ⟨rfl, rfl⟩
def c_strain (w : zW) (v : Int32) : Int32 × zW := if 0 ≤ v ∧ v ≤ 99 then (w.1 0 8, zsi w 0 8 v) else (-1, w)
theorem s_X11_strain {G : zG} {w : zW} (v : Int32) : zFi G mX11_strain [.ref 0, .int v] w (c_strain w v) := by
  refine zC_of (lo := [_, _, _]) kcX11_strain (Nat.le_of_ble_eq_true rfl) rfl (fun X hX hE => ?_)
  refine zk_iload_n hX dX11_strain_0 rfl ?_
  refine zk_if_lt (tgt := 10) hX dX11_strain_1 (by decide) (fun c1 => ?_) (fun c1 => ?_)
  · refine zk_iconst (v := -1) hX dX11_strain_10 (by decide) ?_
    refine zk_iret hX hE rfl ⟨rfl, rfl⟩ dX11_strain_11 ⟨_, rfl, ?_⟩
    unfold c_strain; (repeat' split) <;> first | exact ⟨rfl, rfl⟩ | grind
  · refine zk_iload_n hX dX11_strain_4 rfl ?_
    refine zk_bipush (v := 99) hX dX11_strain_5 (by decide) ?_
    refine zk_icmp_le (tgt := 12) hX dX11_strain_7 (by decide) (fun c7 => ?_) (fun c7 => ?_)
    · refine zk_aload_n hX dX11_strain_12 rfl ?_
      refine zk_getI hX dX11_strain_13 flX11_55 k_0 z_0 ?_
      refine zk_istore_n (lo' := [_, _, _]) hX dX11_strain_16 (Nat.le_of_ble_eq_true rfl) rfl rfl ?_
      refine zk_aload_n hX dX11_strain_17 rfl ?_
      refine zk_iload_n hX dX11_strain_18 rfl ?_
      refine zk_putI hX dX11_strain_19 plX11_55 (fun h => by cases h) k_0 z_0 rfl rfl ?_
      refine zk_iload_n hX dX11_strain_22 rfl ?_
      refine zk_iret hX hE rfl ⟨rfl, rfl⟩ dX11_strain_23 ⟨_, rfl, ?_⟩
      unfold c_strain; (repeat' split) <;> first | exact ⟨rfl, rfl⟩ | grind
    · refine zk_iconst (v := -1) hX dX11_strain_10 (by decide) ?_
      refine zk_iret hX hE rfl ⟨rfl, rfl⟩ dX11_strain_11 ⟨_, rfl, ?_⟩
      unfold c_strain; (repeat' split) <;> first | exact ⟨rfl, rfl⟩ | grind
/-- a lamp's cell -/
def zLp (a : Nat) : Prop := a = 44 ∨ a = 45
theorem zLp_k {a : Nat} (h : zLp a) : a < zN := by unfold zN; rcases h with rfl | rfl <;> decide
theorem zLp_z {a : Nat} (h : zLp a) : zsh a = (0, 3, 0) := by rcases h with rfl | rfl <;> decide +kernel
def zcode (z dx dy : Int32) : Int32 := 100 * z + 10 * (dx + 3) + dy + 3
theorem s_X3_code {G : zG} {w : zW} {a : Nat} (hLp : zLp a) : zEi G mX3_code [.ref a] w (zcode (w.1 a 0) (w.1 a 1) (w.1 a 2)) w := by
  refine zC_of (lo := [_]) kcX3_code (Nat.le_of_ble_eq_true rfl) rfl (fun X hX hE => ?_)
  refine zk_bipush (v := 100) hX dX3_code_0 (by decide) ?_
  refine zk_aload_n hX dX3_code_2 rfl ?_
  refine zk_getI hX dX3_code_3 flX3_9 (zLp_k hLp) (zLp_z hLp) ?_
  refine zk_imul hX dX3_code_6 ?_
  refine zk_bipush (v := 10) hX dX3_code_7 (by decide) ?_
  refine zk_aload_n hX dX3_code_9 rfl ?_
  refine zk_getI hX dX3_code_10 flX3_15 (zLp_k hLp) (zLp_z hLp) ?_
  refine zk_iconst (v := 3) hX dX3_code_13 (by decide) ?_
  refine zk_iadd hX dX3_code_14 ?_
  refine zk_imul hX dX3_code_15 ?_
  refine zk_iadd hX dX3_code_16 ?_
  refine zk_aload_n hX dX3_code_17 rfl ?_
  refine zk_getI hX dX3_code_18 flX3_18 (zLp_k hLp) (zLp_z hLp) ?_
  refine zk_iadd hX dX3_code_21 ?_
  refine zk_iconst (v := 3) hX dX3_code_22 (by decide) ?_
  refine zk_iadd hX dX3_code_23 ?_
  refine zk_iret hX hE rfl ⟨rfl, rfl⟩ dX3_code_24 ⟨_, rfl, ?_⟩
  exact ⟨rfl, rfl⟩
def zbecome (w : zW) (a : Nat) (z dx dy : Int32) : zW := zsi (zsi (zsi w a 0 z) a 1 dx) a 2 dy
theorem s_X3_become {G : zG} {w : zW} {a : Nat} (hLp : zLp a) (z dx dy : Int32) : zEv G mX3_become [.ref a, .int z, .int dx, .int dy] w (zbecome w a z dx dy) := by
  refine zC_of (lo := [_, _, _, _]) kcX3_become (Nat.le_of_ble_eq_true rfl) rfl (fun X hX hE => ?_)
  refine zk_aload_n hX dX3_become_0 rfl ?_
  refine zk_iload_n hX dX3_become_1 rfl ?_
  refine zk_putI hX dX3_become_2 plX3_9 (fun h => by cases h) (zLp_k hLp) (zLp_z hLp) rfl rfl ?_
  refine zk_aload_n hX dX3_become_5 rfl ?_
  refine zk_iload_n hX dX3_become_6 rfl ?_
  refine zk_putI hX dX3_become_7 plX3_15 (fun h => by cases h) (zLp_k hLp) (zLp_z hLp) rfl rfl ?_
  refine zk_aload_n hX dX3_become_10 rfl ?_
  refine zk_iload_n hX dX3_become_11 rfl ?_
  refine zk_putI hX dX3_become_12 plX3_18 (fun h => by cases h) (zLp_k hLp) (zLp_z hLp) rfl rfl ?_
  refine zk_vret hX hE rfl ⟨rfl, rfl⟩ dX3_become_15 ⟨rfl, ?_⟩
  rfl
