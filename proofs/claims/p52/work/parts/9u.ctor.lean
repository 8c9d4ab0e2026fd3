theorem zk_nr2 {G : zG} {X : zX} {M : zM} {n cells slots pc : Nat} {lo st : List Value} {w : zW} {n' cells' slots' : Nat} {w' : zW} {st' : List Value} (hn : n = n') (hc : cells = cells') (hs : slots = slots') (hw : w = w') (hst : st = st') (kk : zk G X M n' cells' slots' pc lo st' w') : zk G X M n cells slots pc lo st w := by
  subst hn hc hs hw hst
  exact kk
/-- no references far out in a cell -/
def zLow (w : zW) : Prop := ∀ k j, (20 ≤ j ∧ k ≠ 166) ∨ 60 ≤ j → w.2.2 k j = none
theorem zLow_r {w : zW} {k j : Nat} {x : Option Nat} (h : zLow w) (hj : j < 20 ∨ (k = 166 ∧ j < 60)) : zLow (zsr w k j x) := fun a i hi => by
  rw [show (zsr w k j x).2.2 a i = if a = k ∧ i = j then x else w.2.2 a i from rfl, if_neg (fun q => by omega)]
  exact h a i hi
theorem zLow_i {w : zW} {k j : Nat} {x : Int32} (h : zLow w) : zLow (zsi w k j x) := h
theorem zLow_l {w : zW} {k j : Nat} {x : Int64} (h : zLow w) : zLow (zsl w k j x) := h
theorem zLow_m {w : zW} {n N : Nat} (h : zLow w) (hN : N ≤ 20) : zLow (zmw w n N) := fun a i hi => by
  rw [show (zmw w n N).2.2 a i = if a = n ∧ i < N then some (n + 1 + i) else w.2.2 a i from rfl, if_neg (fun q => by omega)]
  exact h a i hi
theorem aC_int : Cond.arrayClass .int ∈ zTB := zin (zt1 (List.mem_of_getElem? (i := 46) (by decide +kernel))) rfl
theorem aC_byte : Cond.arrayClass .byte ∈ zTB := zin (zt2 (List.mem_of_getElem? (i := 96) (by decide +kernel))) rfl
theorem aC_long : Cond.arrayClass .long ∈ zTB := zin (zt2 (List.mem_of_getElem? (i := 97) (by decide +kernel))) rfl
theorem nwX5_15 : zNw RX5 15 1 := ⟨_, _, _, tyX1, rfl, tyX1_ok, uwX1, zin (zt1 (List.mem_of_getElem? (i := 157) (by decide +kernel))) rfl, zin (zt1 (List.mem_of_getElem? (i := 158) (by decide +kernel))) rfl, zin (zt1 (List.mem_of_getElem? (i := 9) (by decide +kernel))) rfl, rfl, by decide +kernel⟩
theorem nwX0_7 : zNw RX0 7 1 := ⟨_, _, _, tyX1, rfl, tyX1_ok, uwX1, zin (zt1 (List.mem_of_getElem? (i := 215) (by decide +kernel))) rfl, zin (zt1 (List.mem_of_getElem? (i := 158) (by decide +kernel))) rfl, zin (zt1 (List.mem_of_getElem? (i := 9) (by decide +kernel))) rfl, rfl, by decide +kernel⟩
theorem clX4_9 : Cond.classLink RX4 9 "[[I" ∈ zTB := zin (zt1 (List.mem_of_getElem? (i := 238) (by decide +kernel))) rfl
theorem nwX6_60 : zNw RX6 60 1 := ⟨_, _, _, tyX1, rfl, tyX1_ok, uwX1, zin (zt2 (List.mem_of_getElem? (i := 38) (by decide +kernel))) rfl, zin (zt1 (List.mem_of_getElem? (i := 158) (by decide +kernel))) rfl, zin (zt1 (List.mem_of_getElem? (i := 9) (by decide +kernel))) rfl, rfl, by decide +kernel⟩
theorem clX10_24 : Cond.classLink RX10 24 "[[I" ∈ zTB := zin (zt2 (List.mem_of_getElem? (i := 104) (by decide +kernel))) rfl
theorem nwX11_9 : zNw RX11 9 9 := ⟨_, _, _, tyX9, rfl, tyX9_ok, uwX9, zin (zt1 (List.mem_of_getElem? (i := 24) (by decide +kernel))) rfl, zin (zt1 (List.mem_of_getElem? (i := 25) (by decide +kernel))) rfl, zin (zt1 (List.mem_of_getElem? (i := 2) (by decide +kernel))) rfl, rfl, by decide +kernel⟩
theorem clX11_16 : Cond.classLink RX11 16 RX8 ∈ zTB := zin (zt1 (List.mem_of_getElem? (i := 47) (by decide +kernel))) rfl
theorem nwX11_16 : zNw RX11 16 8 := ⟨_, _, _, tyX8, rfl, tyX8_ok, uwX8, zin (zt1 (List.mem_of_getElem? (i := 47) (by decide +kernel))) rfl, zin (zt1 (List.mem_of_getElem? (i := 49) (by decide +kernel))) rfl, zin (zt1 (List.mem_of_getElem? (i := 3) (by decide +kernel))) rfl, rfl, by decide +kernel⟩
theorem nwX11_28 : zNw RX11 28 7 := ⟨_, _, _, tyX7, rfl, tyX7_ok, uwX7, zin (zt1 (List.mem_of_getElem? (i := 66) (by decide +kernel))) rfl, zin (zt1 (List.mem_of_getElem? (i := 67) (by decide +kernel))) rfl, zin (zt1 (List.mem_of_getElem? (i := 5) (by decide +kernel))) rfl, rfl, by decide +kernel⟩
theorem nwX11_35 : zNw RX11 35 2 := ⟨_, _, _, tyX2, rfl, tyX2_ok, uwX2, zin (zt1 (List.mem_of_getElem? (i := 82) (by decide +kernel))) rfl, zin (zt1 (List.mem_of_getElem? (i := 83) (by decide +kernel))) rfl, zin (zt1 (List.mem_of_getElem? (i := 6) (by decide +kernel))) rfl, rfl, by decide +kernel⟩
theorem nwX11_45 : zNw RX11 45 3 := ⟨_, _, _, tyX3, rfl, tyX3_ok, uwX3, zin (zt1 (List.mem_of_getElem? (i := 134) (by decide +kernel))) rfl, zin (zt1 (List.mem_of_getElem? (i := 135) (by decide +kernel))) rfl, zin (zt1 (List.mem_of_getElem? (i := 7) (by decide +kernel))) rfl, rfl, by decide +kernel⟩
theorem clX11_59 : Cond.classLink RX11 59 RX5 ∈ zTB := zin (zt1 (List.mem_of_getElem? (i := 150) (by decide +kernel))) rfl
theorem nwX11_59 : zNw RX11 59 5 := ⟨_, _, _, tyX5, rfl, tyX5_ok, uwX5, zin (zt1 (List.mem_of_getElem? (i := 150) (by decide +kernel))) rfl, zin (zt1 (List.mem_of_getElem? (i := 152) (by decide +kernel))) rfl, zin (zt1 (List.mem_of_getElem? (i := 8) (by decide +kernel))) rfl, rfl, by decide +kernel⟩
theorem clX11_66 : Cond.classLink RX11 66 RX0 ∈ zTB := zin (zt1 (List.mem_of_getElem? (i := 208) (by decide +kernel))) rfl
theorem nwX11_66 : zNw RX11 66 0 := ⟨_, _, _, tyX0, rfl, tyX0_ok, uwX0, zin (zt1 (List.mem_of_getElem? (i := 208) (by decide +kernel))) rfl, zin (zt1 (List.mem_of_getElem? (i := 210) (by decide +kernel))) rfl, zin (zt1 (List.mem_of_getElem? (i := 10) (by decide +kernel))) rfl, rfl, by decide +kernel⟩
theorem nwX11_73 : zNw RX11 73 4 := ⟨_, _, _, tyX4, rfl, tyX4_ok, uwX4, zin (zt1 (List.mem_of_getElem? (i := 232) (by decide +kernel))) rfl, zin (zt1 (List.mem_of_getElem? (i := 233) (by decide +kernel))) rfl, zin (zt1 (List.mem_of_getElem? (i := 11) (by decide +kernel))) rfl, rfl, by decide +kernel⟩
theorem nwX11_80 : zNw RX11 80 6 := ⟨_, _, _, tyX6, rfl, tyX6_ok, uwX6, zin (zt2 (List.mem_of_getElem? (i := 32) (by decide +kernel))) rfl, zin (zt2 (List.mem_of_getElem? (i := 33) (by decide +kernel))) rfl, zin (zt1 (List.mem_of_getElem? (i := 12) (by decide +kernel))) rfl, rfl, by decide +kernel⟩
theorem nwX11_87 : zNw RX11 87 10 := ⟨_, _, _, tyX10, rfl, tyX10_ok, uwX10, zin (zt2 (List.mem_of_getElem? (i := 98) (by decide +kernel))) rfl, zin (zt2 (List.mem_of_getElem? (i := 99) (by decide +kernel))) rfl, zin (zt1 (List.mem_of_getElem? (i := 13) (by decide +kernel))) rfl, rfl, by decide +kernel⟩
theorem nwX11_94 : zNw RX11 94 1 := ⟨_, _, _, tyX1, rfl, tyX1_ok, uwX1, zin (zt2 (List.mem_of_getElem? (i := 132) (by decide +kernel))) rfl, zin (zt1 (List.mem_of_getElem? (i := 158) (by decide +kernel))) rfl, zin (zt1 (List.mem_of_getElem? (i := 9) (by decide +kernel))) rfl, rfl, by decide +kernel⟩
abbrev mX8_init80 : zM := (yX8_init, cX8_init, 2, none, 1, 21, 1, 80)
theorem s_X1_init {G : zG} (k : Nat) (w : zW) (hb : k + 1 ≤ 166) (h0 : zsh k = (0, 1, 0)) (hw : zNew w (k + 1)) : zC G mX1_init [.ref k] (k + 1) w (k + 1) (fun v w1 => v = none ∧ w1 = w) := by
  refine zC_of (M := mX1_init) (lo := [_]) kcX1_init (Nat.le_of_ble_eq_true rfl) rfl (fun X hX hE => ?_)
  have nw0 := hw
  refine zk_aload_n hX dX1_init_0 rfl ?_
  refine zk_objInit hX dX1_init_1 mlX1_3 obI obC (by decide) (by decide) ?_
  exact zk_vret hX hE rfl ⟨rfl, rfl⟩ dX1_init_4 ⟨rfl, rfl⟩
theorem s_X9_init {G : zG} (k : Nat) (w : zW) (hb : k + 2 ≤ 166) (h0 : zsh k = (0, 9, 0)) (h1 : zsh (k + 1) = (1, 0, 6)) (hw : zNew w (k + 1)) : zC G mX9_init [.ref k] (k + 1) w (k + 2) (fun v w1 => v = none ∧ w1 = zsr (zsl w k 2 1) k 4 (some (k + 1))) := by
  refine zC_of (M := mX9_init) (lo := [_]) kcX9_init (Nat.le_of_ble_eq_true rfl) rfl (fun X hX hE => ?_)
  have nw0 := hw
  refine zk_aload_n hX dX9_init_0 rfl ?_
  refine zk_objInit hX dX9_init_1 mlX9_3 obI obC (by decide) (by decide) ?_
  refine zk_aload_n hX dX9_init_4 rfl ?_
  refine zk_lconst (v := 1) hX dX9_init_5 rfl ?_
  refine zk_putL hX dX9_init_6 plX9_9 (fun _ => rfl) (by omega) h0 ?_
  have nw1 := zNew_l (k := k) (j := 2) (x := 1) nw0 (by omega)
  refine zk_aload_n hX dX9_init_9 rfl ?_
  refine zk_bipush (v := 6) hX dX9_init_10 (by decide) ?_
  refine zk_newa1 (t := 0) (N := 6) hX dX9_init_12 aC_int rfl rfl (by decide) (by decide) (by decide) (show k + 1 < 166 by omega) h1 (nw1 (k + 1) (by omega)) ⟨by decide, by decide⟩ ?_
  refine zk_nr2 (n' := k + 2) (cells' := 1) (slots' := 6) (w' := _) (st' := [.ref (k + 1), .ref k]) rfl rfl rfl rfl rfl ?_
  refine zk_putR hX dX9_init_14 plX9_15 (fun _ => rfl) (by omega) h0 rfl rfl ?_
  have nw2 := zNew_r (k := k) (j := 4) (x := (some (k + 1))) nw1 (by omega)
  exact zk_vret hX hE rfl ⟨rfl, rfl⟩ dX9_init_17 ⟨rfl, rfl⟩
theorem s_X8_init {G : zG} (k : Nat) (w : zW) (hb : k + 2 ≤ 166) (h0 : zsh k = (0, 8, 0)) (h1 : zsh (k + 1) = (1, 0, 40)) (hw : zNew w (k + 1)) : zC G mX8_init [.ref k, .int 40] (k + 1) w (k + 2) (fun v w1 => v = none ∧ w1 = zsr (zsi w k 0 (-1)) k 1 (some (k + 1))) := by
  refine zC_of (M := mX8_init) (lo := [_, _]) kcX8_init (Nat.le_of_ble_eq_true rfl) rfl (fun X hX hE => ?_)
  have nw0 := hw
  refine zk_aload_n hX dX8_init_0 rfl ?_
  refine zk_objInit hX dX8_init_1 mlX8_3 obI obC (by decide) (by decide) ?_
  refine zk_aload_n hX dX8_init_4 rfl ?_
  refine zk_iconst (v := -1) hX dX8_init_5 (by decide) ?_
  refine zk_putI hX dX8_init_6 plX8_11 (fun _ => rfl) (by omega) h0 rfl rfl ?_
  have nw1 := zNew_i (k := k) (j := 0) (x := (-1)) nw0 (by omega)
  refine zk_aload_n hX dX8_init_9 rfl ?_
  refine zk_iload_n hX dX8_init_10 rfl ?_
  refine zk_iconst (v := 0) hX dX8_init_11 (by decide) ?_
  refine zk_mmaxn hX dX8_init_12 mlX8_15 ⟨rfl, rfl⟩ ⟨by decide, by decide⟩ ?_
  refine zk_newa1 (t := 0) (N := 40) hX dX8_init_15 aC_int rfl rfl (by decide) (by decide) (by decide) (show k + 1 < 166 by omega) h1 (nw1 (k + 1) (by omega)) ⟨by decide, by decide⟩ ?_
  refine zk_nr2 (n' := k + 2) (cells' := 1) (slots' := 40) (w' := _) (st' := [.ref (k + 1), .ref k]) rfl rfl rfl rfl rfl ?_
  refine zk_putR hX dX8_init_17 plX8_21 (fun _ => rfl) (by omega) h0 rfl rfl ?_
  have nw2 := zNew_r (k := k) (j := 1) (x := (some (k + 1))) nw1 (by omega)
  exact zk_vret hX hE rfl ⟨rfl, rfl⟩ dX8_init_20 ⟨rfl, rfl⟩
theorem s_X8_init80 {G : zG} (k : Nat) (w : zW) (hb : k + 2 ≤ 166) (h0 : zsh k = (0, 8, 0)) (h1 : zsh (k + 1) = (1, 0, 80)) (hw : zNew w (k + 1)) : zC G mX8_init80 [.ref k, .int 80] (k + 1) w (k + 2) (fun v w1 => v = none ∧ w1 = zsr (zsi w k 0 (-1)) k 1 (some (k + 1))) := by
  refine zC_of (M := mX8_init80) (lo := [_, _]) kcX8_init (Nat.le_of_ble_eq_true rfl) rfl (fun X hX hE => ?_)
  have nw0 := hw
  refine zk_aload_n hX dX8_init_0 rfl ?_
  refine zk_objInit hX dX8_init_1 mlX8_3 obI obC (by decide) (by decide) ?_
  refine zk_aload_n hX dX8_init_4 rfl ?_
  refine zk_iconst (v := -1) hX dX8_init_5 (by decide) ?_
  refine zk_putI hX dX8_init_6 plX8_11 (fun _ => rfl) (by omega) h0 rfl rfl ?_
  have nw1 := zNew_i (k := k) (j := 0) (x := (-1)) nw0 (by omega)
  refine zk_aload_n hX dX8_init_9 rfl ?_
  refine zk_iload_n hX dX8_init_10 rfl ?_
  refine zk_iconst (v := 0) hX dX8_init_11 (by decide) ?_
  refine zk_mmaxn hX dX8_init_12 mlX8_15 ⟨rfl, rfl⟩ ⟨by decide, by decide⟩ ?_
  refine zk_newa1 (t := 0) (N := 80) hX dX8_init_15 aC_int rfl rfl (by decide) (by decide) (by decide) (show k + 1 < 166 by omega) h1 (nw1 (k + 1) (by omega)) ⟨by decide, by decide⟩ ?_
  refine zk_nr2 (n' := k + 2) (cells' := 1) (slots' := 80) (w' := _) (st' := [.ref (k + 1), .ref k]) rfl rfl rfl rfl rfl ?_
  refine zk_putR hX dX8_init_17 plX8_21 (fun _ => rfl) (by omega) h0 rfl rfl ?_
  have nw2 := zNew_r (k := k) (j := 1) (x := (some (k + 1))) nw1 (by omega)
  exact zk_vret hX hE rfl ⟨rfl, rfl⟩ dX8_init_20 ⟨rfl, rfl⟩
theorem s_X7_init {G : zG} (k : Nat) (w : zW) (hb : k + 1 ≤ 166) (h0 : zsh k = (0, 7, 0)) (hw : zNew w (k + 1)) : zC G mX7_init [.ref k] (k + 1) w (k + 1) (fun v w1 => v = none ∧ w1 = w) := by
  refine zC_of (M := mX7_init) (lo := [_]) kcX7_init (Nat.le_of_ble_eq_true rfl) rfl (fun X hX hE => ?_)
  have nw0 := hw
  refine zk_aload_n hX dX7_init_0 rfl ?_
  refine zk_objInit hX dX7_init_1 mlX7_3 obI obC (by decide) (by decide) ?_
  exact zk_vret hX hE rfl ⟨rfl, rfl⟩ dX7_init_4 ⟨rfl, rfl⟩
theorem s_X2_init {G : zG} (k : Nat) (w : zW) (hb : k + 9 ≤ 166) (h0 : zsh k = (0, 2, 0)) (h1 : zsh (k + 1) = (1, 0, 2)) (h2 : zsh (k + 2) = (1, 0, 6)) (h3 : zsh (k + 3) = (1, 0, 6)) (h4 : zsh (k + 4) = (1, 0, 6)) (h5 : zsh (k + 5) = (1, 0, 6)) (h6 : zsh (k + 6) = (1, 0, 6)) (h7 : zsh (k + 7) = (1, 0, 6)) (h8 : zsh (k + 8) = (1, 0, 6)) (hw : zNew w (k + 1)) : zC G mX2_init [.ref k] (k + 1) w (k + 9) (fun v w1 => v = none ∧ w1 = zsr (zsr (zsr (zsr (zsr (zsr (zsr (zsr w k 3 (some (k + 1))) k 4 (some (k + 2))) k 5 (some (k + 3))) k 6 (some (k + 4))) k 7 (some (k + 5))) k 8 (some (k + 6))) k 9 (some (k + 7))) k 10 (some (k + 8))) := by
  refine zC_of (M := mX2_init) (lo := [_]) kcX2_init (Nat.le_of_ble_eq_true rfl) rfl (fun X hX hE => ?_)
  have nw0 := hw
  refine zk_aload_n hX dX2_init_0 rfl ?_
  refine zk_objInit hX dX2_init_1 mlX2_3 obI obC (by decide) (by decide) ?_
  refine zk_aload_n hX dX2_init_4 rfl ?_
  refine zk_iconst (v := 2) hX dX2_init_5 (by decide) ?_
  refine zk_newa1 (t := 0) (N := 2) hX dX2_init_6 aC_int rfl rfl (by decide) (by decide) (by decide) (show k + 1 < 166 by omega) h1 (nw0 (k + 1) (by omega)) ⟨by decide, by decide⟩ ?_
  refine zk_nr2 (n' := k + 2) (cells' := 1) (slots' := 2) (w' := _) (st' := [.ref (k + 1), .ref k]) rfl rfl rfl rfl rfl ?_
  refine zk_putR hX dX2_init_8 plX2_9 (fun _ => rfl) (by omega) h0 rfl rfl ?_
  have nw1 := zNew_r (k := k) (j := 3) (x := (some (k + 1))) nw0 (by omega)
  refine zk_aload_n hX dX2_init_11 rfl ?_
  refine zk_bipush (v := 6) hX dX2_init_12 (by decide) ?_
  refine zk_newa1 (t := 0) (N := 6) hX dX2_init_14 aC_int rfl rfl (by decide) (by decide) (by decide) (show k + 2 < 166 by omega) h2 (nw1 (k + 2) (by omega)) ⟨by decide, by decide⟩ ?_
  refine zk_nr2 (n' := k + 3) (cells' := 2) (slots' := 8) (w' := _) (st' := [.ref (k + 2), .ref k]) rfl rfl rfl rfl rfl ?_
  refine zk_putR hX dX2_init_16 plX2_15 (fun _ => rfl) (by omega) h0 rfl rfl ?_
  have nw2 := zNew_r (k := k) (j := 4) (x := (some (k + 2))) nw1 (by omega)
  refine zk_aload_n hX dX2_init_19 rfl ?_
  refine zk_bipush (v := 6) hX dX2_init_20 (by decide) ?_
  refine zk_newa1 (t := 0) (N := 6) hX dX2_init_22 aC_int rfl rfl (by decide) (by decide) (by decide) (show k + 3 < 166 by omega) h3 (nw2 (k + 3) (by omega)) ⟨by decide, by decide⟩ ?_
  refine zk_nr2 (n' := k + 4) (cells' := 3) (slots' := 14) (w' := _) (st' := [.ref (k + 3), .ref k]) rfl rfl rfl rfl rfl ?_
  refine zk_putR hX dX2_init_24 plX2_18 (fun _ => rfl) (by omega) h0 rfl rfl ?_
  have nw3 := zNew_r (k := k) (j := 5) (x := (some (k + 3))) nw2 (by omega)
  refine zk_aload_n hX dX2_init_27 rfl ?_
  refine zk_bipush (v := 6) hX dX2_init_28 (by decide) ?_
  refine zk_newa1 (t := 0) (N := 6) hX dX2_init_30 aC_int rfl rfl (by decide) (by decide) (by decide) (show k + 4 < 166 by omega) h4 (nw3 (k + 4) (by omega)) ⟨by decide, by decide⟩ ?_
  refine zk_nr2 (n' := k + 5) (cells' := 4) (slots' := 20) (w' := _) (st' := [.ref (k + 4), .ref k]) rfl rfl rfl rfl rfl ?_
  refine zk_putR hX dX2_init_32 plX2_21 (fun _ => rfl) (by omega) h0 rfl rfl ?_
  have nw4 := zNew_r (k := k) (j := 6) (x := (some (k + 4))) nw3 (by omega)
  refine zk_aload_n hX dX2_init_35 rfl ?_
  refine zk_bipush (v := 6) hX dX2_init_36 (by decide) ?_
  refine zk_newa1 (t := 0) (N := 6) hX dX2_init_38 aC_int rfl rfl (by decide) (by decide) (by decide) (show k + 5 < 166 by omega) h5 (nw4 (k + 5) (by omega)) ⟨by decide, by decide⟩ ?_
  refine zk_nr2 (n' := k + 6) (cells' := 5) (slots' := 26) (w' := _) (st' := [.ref (k + 5), .ref k]) rfl rfl rfl rfl rfl ?_
  refine zk_putR hX dX2_init_40 plX2_24 (fun _ => rfl) (by omega) h0 rfl rfl ?_
  have nw5 := zNew_r (k := k) (j := 7) (x := (some (k + 5))) nw4 (by omega)
  refine zk_aload_n hX dX2_init_43 rfl ?_
  refine zk_bipush (v := 6) hX dX2_init_44 (by decide) ?_
  refine zk_newa1 (t := 0) (N := 6) hX dX2_init_46 aC_int rfl rfl (by decide) (by decide) (by decide) (show k + 6 < 166 by omega) h6 (nw5 (k + 6) (by omega)) ⟨by decide, by decide⟩ ?_
  refine zk_nr2 (n' := k + 7) (cells' := 6) (slots' := 32) (w' := _) (st' := [.ref (k + 6), .ref k]) rfl rfl rfl rfl rfl ?_
  refine zk_putR hX dX2_init_48 plX2_27 (fun _ => rfl) (by omega) h0 rfl rfl ?_
  have nw6 := zNew_r (k := k) (j := 8) (x := (some (k + 6))) nw5 (by omega)
  refine zk_aload_n hX dX2_init_51 rfl ?_
  refine zk_bipush (v := 6) hX dX2_init_52 (by decide) ?_
  refine zk_newa1 (t := 0) (N := 6) hX dX2_init_54 aC_int rfl rfl (by decide) (by decide) (by decide) (show k + 7 < 166 by omega) h7 (nw6 (k + 7) (by omega)) ⟨by decide, by decide⟩ ?_
  refine zk_nr2 (n' := k + 8) (cells' := 7) (slots' := 38) (w' := _) (st' := [.ref (k + 7), .ref k]) rfl rfl rfl rfl rfl ?_
  refine zk_putR hX dX2_init_56 plX2_30 (fun _ => rfl) (by omega) h0 rfl rfl ?_
  have nw7 := zNew_r (k := k) (j := 9) (x := (some (k + 7))) nw6 (by omega)
  refine zk_aload_n hX dX2_init_59 rfl ?_
  refine zk_bipush (v := 6) hX dX2_init_60 (by decide) ?_
  refine zk_newa1 (t := 0) (N := 6) hX dX2_init_62 aC_int rfl rfl (by decide) (by decide) (by decide) (show k + 8 < 166 by omega) h8 (nw7 (k + 8) (by omega)) ⟨by decide, by decide⟩ ?_
  refine zk_nr2 (n' := k + 9) (cells' := 8) (slots' := 44) (w' := _) (st' := [.ref (k + 8), .ref k]) rfl rfl rfl rfl rfl ?_
  refine zk_putR hX dX2_init_64 plX2_33 (fun _ => rfl) (by omega) h0 rfl rfl ?_
  have nw8 := zNew_r (k := k) (j := 10) (x := (some (k + 8))) nw7 (by omega)
  exact zk_vret hX hE rfl ⟨rfl, rfl⟩ dX2_init_67 ⟨rfl, rfl⟩
theorem s_X3_init {G : zG} (k : Nat) (w : zW) (hb : k + 1 ≤ 166) (h0 : zsh k = (0, 3, 0)) (hw : zNew w (k + 1)) : zC G mX3_init [.ref k] (k + 1) w (k + 1) (fun v w1 => v = none ∧ w1 = zsi w k 0 (1)) := by
  refine zC_of (M := mX3_init) (lo := [_]) kcX3_init (Nat.le_of_ble_eq_true rfl) rfl (fun X hX hE => ?_)
  have nw0 := hw
  refine zk_aload_n hX dX3_init_0 rfl ?_
  refine zk_objInit hX dX3_init_1 mlX3_3 obI obC (by decide) (by decide) ?_
  refine zk_aload_n hX dX3_init_4 rfl ?_
  refine zk_iconst (v := 1) hX dX3_init_5 (by decide) ?_
  refine zk_putI hX dX3_init_6 plX3_9 (fun _ => rfl) (by omega) h0 rfl rfl ?_
  have nw1 := zNew_i (k := k) (j := 0) (x := (1)) nw0 (by omega)
  exact zk_vret hX hE rfl ⟨rfl, rfl⟩ dX3_init_9 ⟨rfl, rfl⟩
theorem s_X5_init {G : zG} (k : Nat) (w : zW) (hb : k + 4 ≤ 166) (h0 : zsh k = (0, 5, 0)) (h1 : zsh (k + 1) = (1, 0, 6)) (h2 : zsh (k + 2) = (0, 1, 0)) (h3 : zsh (k + 3) = (0, 1, 0)) (hw : zNew w (k + 1)) : zC G mX5_init [.ref k] (k + 1) w (k + 4) (fun v w1 => v = none ∧ w1 = zsr (zsr (zsr w k 0 (some (k + 1))) k 1 (some (k + 2))) k 2 (some (k + 3))) := by
  refine zC_of (M := mX5_init) (lo := [_]) kcX5_init (Nat.le_of_ble_eq_true rfl) rfl (fun X hX hE => ?_)
  have nw0 := hw
  refine zk_aload_n hX dX5_init_0 rfl ?_
  refine zk_objInit hX dX5_init_1 mlX5_3 obI obC (by decide) (by decide) ?_
  refine zk_aload_n hX dX5_init_4 rfl ?_
  refine zk_bipush (v := 6) hX dX5_init_5 (by decide) ?_
  refine zk_newa1 (t := 0) (N := 6) hX dX5_init_7 aC_int rfl rfl (by decide) (by decide) (by decide) (show k + 1 < 166 by omega) h1 (nw0 (k + 1) (by omega)) ⟨by decide, by decide⟩ ?_
  refine zk_nr2 (n' := k + 2) (cells' := 1) (slots' := 6) (w' := _) (st' := [.ref (k + 1), .ref k]) rfl rfl rfl rfl rfl ?_
  refine zk_putR hX dX5_init_9 plX5_9 (fun _ => rfl) (by omega) h0 rfl rfl ?_
  have nw1 := zNew_r (k := k) (j := 0) (x := (some (k + 1))) nw0 (by omega)
  refine zk_aload_n hX dX5_init_12 rfl ?_
  refine zk_new hX dX5_init_13 nwX5_15 (show k + 2 < 166 by omega) h2 (nw1 (k + 2) (by omega)) ⟨by decide, by decide⟩ ?_
  refine zk_nr2 (n' := k + 3) (cells' := 2) (slots' := 8) (w' := _) (st' := [.ref (k + 2), .ref k]) rfl rfl rfl rfl rfl ?_
  refine zk_dup hX dX5_init_16 rfl ?_
  refine zk_callIN (M' := mX1_init) hX dX5_init_17 kcX1_init mnX5_17 imX1_init ⟨rfl, rfl⟩ rfl (s_X1_init (k + 2) _ (by omega) h2 (nw1.le (by omega))) rfl rfl (Nat.le_of_ble_eq_true rfl) ⟨by decide, by decide⟩ (fun v w1 hq => ?_)
  obtain ⟨rfl, rfl⟩ := hq
  refine zk_nr2 (n' := k + 3) (cells' := 2) (slots' := 8) (w' := _) (st' := [.ref (k + 2), .ref k]) rfl rfl rfl rfl rfl ?_
  refine zk_putR hX dX5_init_20 plX5_18 (fun _ => rfl) (by omega) h0 rfl rfl ?_
  have nw2 := zNew_r (k := k) (j := 1) (x := (some (k + 2))) nw1 (by omega)
  refine zk_aload_n hX dX5_init_23 rfl ?_
  refine zk_new hX dX5_init_24 nwX5_15 (show k + 3 < 166 by omega) h3 (nw2 (k + 3) (by omega)) ⟨by decide, by decide⟩ ?_
  refine zk_nr2 (n' := k + 4) (cells' := 3) (slots' := 10) (w' := _) (st' := [.ref (k + 3), .ref k]) rfl rfl rfl rfl rfl ?_
  refine zk_dup hX dX5_init_27 rfl ?_
  refine zk_callIN (M' := mX1_init) hX dX5_init_28 kcX1_init mnX5_17 imX1_init ⟨rfl, rfl⟩ rfl (s_X1_init (k + 3) _ (by omega) h3 (nw2.le (by omega))) rfl rfl (Nat.le_of_ble_eq_true rfl) ⟨by decide, by decide⟩ (fun v w1 hq => ?_)
  obtain ⟨rfl, rfl⟩ := hq
  refine zk_nr2 (n' := k + 4) (cells' := 3) (slots' := 10) (w' := _) (st' := [.ref (k + 3), .ref k]) rfl rfl rfl rfl rfl ?_
  refine zk_putR hX dX5_init_31 plX5_22 (fun _ => rfl) (by omega) h0 rfl rfl ?_
  have nw3 := zNew_r (k := k) (j := 2) (x := (some (k + 3))) nw2 (by omega)
  exact zk_vret hX hE rfl ⟨rfl, rfl⟩ dX5_init_34 ⟨rfl, rfl⟩
theorem s_X0_init {G : zG} (k : Nat) (w : zW) (hb : k + 3 ≤ 166) (h0 : zsh k = (0, 0, 0)) (h1 : zsh (k + 1) = (0, 1, 0)) (h2 : zsh (k + 2) = (0, 1, 0)) (hw : zNew w (k + 1)) : zC G mX0_init [.ref k] (k + 1) w (k + 3) (fun v w1 => v = none ∧ w1 = zsr (zsr w k 0 (some (k + 1))) k 1 (some (k + 2))) := by
  refine zC_of (M := mX0_init) (lo := [_]) kcX0_init (Nat.le_of_ble_eq_true rfl) rfl (fun X hX hE => ?_)
  have nw0 := hw
  refine zk_aload_n hX dX0_init_0 rfl ?_
  refine zk_objInit hX dX0_init_1 mlX0_1 obI obC (by decide) (by decide) ?_
  refine zk_aload_n hX dX0_init_4 rfl ?_
  refine zk_new hX dX0_init_5 nwX0_7 (show k + 1 < 166 by omega) h1 (nw0 (k + 1) (by omega)) ⟨by decide, by decide⟩ ?_
  refine zk_nr2 (n' := k + 2) (cells' := 1) (slots' := 2) (w' := _) (st' := [.ref (k + 1), .ref k]) rfl rfl rfl rfl rfl ?_
  refine zk_dup hX dX0_init_8 rfl ?_
  refine zk_callIN (M' := mX1_init) hX dX0_init_9 kcX1_init mnX0_9 imX1_init ⟨rfl, rfl⟩ rfl (s_X1_init (k + 1) _ (by omega) h1 (nw0.le (by omega))) rfl rfl (Nat.le_of_ble_eq_true rfl) ⟨by decide, by decide⟩ (fun v w1 hq => ?_)
  obtain ⟨rfl, rfl⟩ := hq
  refine zk_nr2 (n' := k + 2) (cells' := 1) (slots' := 2) (w' := _) (st' := [.ref (k + 1), .ref k]) rfl rfl rfl rfl rfl ?_
  refine zk_putR hX dX0_init_12 plX0_10 (fun _ => rfl) (by omega) h0 rfl rfl ?_
  have nw1 := zNew_r (k := k) (j := 0) (x := (some (k + 1))) nw0 (by omega)
  refine zk_aload_n hX dX0_init_15 rfl ?_
  refine zk_new hX dX0_init_16 nwX0_7 (show k + 2 < 166 by omega) h2 (nw1 (k + 2) (by omega)) ⟨by decide, by decide⟩ ?_
  refine zk_nr2 (n' := k + 3) (cells' := 2) (slots' := 4) (w' := _) (st' := [.ref (k + 2), .ref k]) rfl rfl rfl rfl rfl ?_
  refine zk_dup hX dX0_init_19 rfl ?_
  refine zk_callIN (M' := mX1_init) hX dX0_init_20 kcX1_init mnX0_9 imX1_init ⟨rfl, rfl⟩ rfl (s_X1_init (k + 2) _ (by omega) h2 (nw1.le (by omega))) rfl rfl (Nat.le_of_ble_eq_true rfl) ⟨by decide, by decide⟩ (fun v w1 hq => ?_)
  obtain ⟨rfl, rfl⟩ := hq
  refine zk_nr2 (n' := k + 3) (cells' := 2) (slots' := 4) (w' := _) (st' := [.ref (k + 2), .ref k]) rfl rfl rfl rfl rfl ?_
  refine zk_putR hX dX0_init_23 plX0_16 (fun _ => rfl) (by omega) h0 rfl rfl ?_
  have nw2 := zNew_r (k := k) (j := 1) (x := (some (k + 2))) nw1 (by omega)
  exact zk_vret hX hE rfl ⟨rfl, rfl⟩ dX0_init_26 ⟨rfl, rfl⟩
theorem s_X4_init {G : zG} (k : Nat) (w : zW) (hb : k + 17 ≤ 166) (h0 : zsh k = (0, 4, 0)) (h1 : zsh (k + 1) = (3, 7, 8)) (h10 : zsh (k + 10) = (1, 0, 24)) (h11 : zsh (k + 11) = (1, 0, 24)) (h12 : zsh (k + 12) = (1, 0, 24)) (h13 : zsh (k + 13) = (1, 0, 6)) (h14 : zsh (k + 14) = (1, 0, 6)) (h15 : zsh (k + 15) = (1, 0, 6)) (h16 : zsh (k + 16) = (1, 0, 27)) (hm : ∀ j, j < 8 → zsh (k + 1 + 1 + j) = (1, 0, 3)) (hw : zNew w (k + 1)) : zC G mX4_init [.ref k] (k + 1) w (k + 17) (fun v w1 => v = none ∧ w1 = zsr (zsr (zsr (zsr (zsr (zsr (zsr (zsr (zmw w (k + 1) 8) k 1 (some (k + 1))) k 3 (some (k + 10))) k 4 (some (k + 11))) k 5 (some (k + 12))) k 6 (some (k + 13))) k 7 (some (k + 14))) k 8 (some (k + 15))) k 10 (some (k + 16))) := by
  refine zC_of (M := mX4_init) (lo := [_]) kcX4_init (Nat.le_of_ble_eq_true rfl) rfl (fun X hX hE => ?_)
  have nw0 := hw
  refine zk_aload_n hX dX4_init_0 rfl ?_
  refine zk_objInit hX dX4_init_1 mlX4_3 obI obC (by decide) (by decide) ?_
  refine zk_aload_n hX dX4_init_4 rfl ?_
  refine zk_bipush (v := 8) hX dX4_init_5 (by decide) ?_
  refine zk_iconst (v := 3) hX dX4_init_7 (by decide) ?_
  refine zk_mna (N := 8) (K := 3) hX dX4_init_8 clX4_9 aC_int (by decide) (by decide) (by decide) (by decide) ⟨by decide, by decide⟩ (show k + 1 + 8 < 166 by omega) h1 hm (nw0.le (by omega)) ⟨by decide, by decide⟩ ?_
  have nw1 := zNew_m (m := k + 10) (N := 8) (nw0.le (m := k + 1) (by omega)) (by omega)
  refine zk_nr2 (n' := k + 10) (cells' := 9) (slots' := 32) (w' := _) (st' := [.ref (k + 1), .ref k]) rfl rfl rfl rfl rfl ?_
  refine zk_putR hX dX4_init_12 plX4_11 (fun _ => rfl) (by omega) h0 rfl rfl ?_
  have nw2 := zNew_r (k := k) (j := 1) (x := (some (k + 1))) nw1 (by omega)
  refine zk_aload_n hX dX4_init_15 rfl ?_
  refine zk_bipush (v := 24) hX dX4_init_16 (by decide) ?_
  refine zk_newa1 (t := 0) (N := 24) hX dX4_init_18 aC_int rfl rfl (by decide) (by decide) (by decide) (show k + 10 < 166 by omega) h10 (nw2 (k + 10) (by omega)) ⟨by decide, by decide⟩ ?_
  refine zk_nr2 (n' := k + 11) (cells' := 10) (slots' := 56) (w' := _) (st' := [.ref (k + 10), .ref k]) rfl rfl rfl rfl rfl ?_
  refine zk_putR hX dX4_init_20 plX4_16 (fun _ => rfl) (by omega) h0 rfl rfl ?_
  have nw3 := zNew_r (k := k) (j := 3) (x := (some (k + 10))) nw2 (by omega)
  refine zk_aload_n hX dX4_init_23 rfl ?_
  refine zk_bipush (v := 24) hX dX4_init_24 (by decide) ?_
  refine zk_newa1 (t := 0) (N := 24) hX dX4_init_26 aC_int rfl rfl (by decide) (by decide) (by decide) (show k + 11 < 166 by omega) h11 (nw3 (k + 11) (by omega)) ⟨by decide, by decide⟩ ?_
  refine zk_nr2 (n' := k + 12) (cells' := 11) (slots' := 80) (w' := _) (st' := [.ref (k + 11), .ref k]) rfl rfl rfl rfl rfl ?_
  refine zk_putR hX dX4_init_28 plX4_20 (fun _ => rfl) (by omega) h0 rfl rfl ?_
  have nw4 := zNew_r (k := k) (j := 4) (x := (some (k + 11))) nw3 (by omega)
  refine zk_aload_n hX dX4_init_31 rfl ?_
  refine zk_bipush (v := 24) hX dX4_init_32 (by decide) ?_
  refine zk_newa1 (t := 0) (N := 24) hX dX4_init_34 aC_int rfl rfl (by decide) (by decide) (by decide) (show k + 12 < 166 by omega) h12 (nw4 (k + 12) (by omega)) ⟨by decide, by decide⟩ ?_
  refine zk_nr2 (n' := k + 13) (cells' := 12) (slots' := 104) (w' := _) (st' := [.ref (k + 12), .ref k]) rfl rfl rfl rfl rfl ?_
  refine zk_putR hX dX4_init_36 plX4_23 (fun _ => rfl) (by omega) h0 rfl rfl ?_
  have nw5 := zNew_r (k := k) (j := 5) (x := (some (k + 12))) nw4 (by omega)
  refine zk_aload_n hX dX4_init_39 rfl ?_
  refine zk_bipush (v := 6) hX dX4_init_40 (by decide) ?_
  refine zk_newa1 (t := 0) (N := 6) hX dX4_init_42 aC_int rfl rfl (by decide) (by decide) (by decide) (show k + 13 < 166 by omega) h13 (nw5 (k + 13) (by omega)) ⟨by decide, by decide⟩ ?_
  refine zk_nr2 (n' := k + 14) (cells' := 13) (slots' := 110) (w' := _) (st' := [.ref (k + 13), .ref k]) rfl rfl rfl rfl rfl ?_
  refine zk_putR hX dX4_init_44 plX4_26 (fun _ => rfl) (by omega) h0 rfl rfl ?_
  have nw6 := zNew_r (k := k) (j := 6) (x := (some (k + 13))) nw5 (by omega)
  refine zk_aload_n hX dX4_init_47 rfl ?_
  refine zk_bipush (v := 6) hX dX4_init_48 (by decide) ?_
  refine zk_newa1 (t := 0) (N := 6) hX dX4_init_50 aC_int rfl rfl (by decide) (by decide) (by decide) (show k + 14 < 166 by omega) h14 (nw6 (k + 14) (by omega)) ⟨by decide, by decide⟩ ?_
  refine zk_nr2 (n' := k + 15) (cells' := 14) (slots' := 116) (w' := _) (st' := [.ref (k + 14), .ref k]) rfl rfl rfl rfl rfl ?_
  refine zk_putR hX dX4_init_52 plX4_29 (fun _ => rfl) (by omega) h0 rfl rfl ?_
  have nw7 := zNew_r (k := k) (j := 7) (x := (some (k + 14))) nw6 (by omega)
  refine zk_aload_n hX dX4_init_55 rfl ?_
  refine zk_bipush (v := 6) hX dX4_init_56 (by decide) ?_
  refine zk_newa1 (t := 0) (N := 6) hX dX4_init_58 aC_int rfl rfl (by decide) (by decide) (by decide) (show k + 15 < 166 by omega) h15 (nw7 (k + 15) (by omega)) ⟨by decide, by decide⟩ ?_
  refine zk_nr2 (n' := k + 16) (cells' := 15) (slots' := 122) (w' := _) (st' := [.ref (k + 15), .ref k]) rfl rfl rfl rfl rfl ?_
  refine zk_putR hX dX4_init_60 plX4_32 (fun _ => rfl) (by omega) h0 rfl rfl ?_
  have nw8 := zNew_r (k := k) (j := 8) (x := (some (k + 15))) nw7 (by omega)
  refine zk_aload_n hX dX4_init_63 rfl ?_
  refine zk_bipush (v := 27) hX dX4_init_64 (by decide) ?_
  refine zk_newa1 (t := 0) (N := 27) hX dX4_init_66 aC_int rfl rfl (by decide) (by decide) (by decide) (show k + 16 < 166 by omega) h16 (nw8 (k + 16) (by omega)) ⟨by decide, by decide⟩ ?_
  refine zk_nr2 (n' := k + 17) (cells' := 16) (slots' := 149) (w' := _) (st' := [.ref (k + 16), .ref k]) rfl rfl rfl rfl rfl ?_
  refine zk_putR hX dX4_init_68 plX4_35 (fun _ => rfl) (by omega) h0 rfl rfl ?_
  have nw9 := zNew_r (k := k) (j := 10) (x := (some (k + 16))) nw8 (by omega)
  exact zk_vret hX hE rfl ⟨rfl, rfl⟩ dX4_init_71 ⟨rfl, rfl⟩
theorem s_X6_init {G : zG} (k : Nat) (w : zW) (hb : k + 16 ≤ 166) (h0 : zsh k = (0, 6, 0)) (h1 : zsh (k + 1) = (1, 0, 6)) (h2 : zsh (k + 2) = (1, 0, 6)) (h3 : zsh (k + 3) = (1, 1, 4096)) (h4 : zsh (k + 4) = (2, 3, 4096)) (h5 : zsh (k + 5) = (2, 3, 4096)) (h6 : zsh (k + 6) = (2, 3, 4096)) (h7 : zsh (k + 7) = (2, 3, 4096)) (h8 : zsh (k + 8) = (1, 0, 6)) (h9 : zsh (k + 9) = (1, 1, 750)) (h10 : zsh (k + 10) = (2, 3, 750)) (h11 : zsh (k + 11) = (2, 3, 750)) (h12 : zsh (k + 12) = (2, 3, 125)) (h13 : zsh (k + 13) = (2, 3, 125)) (h14 : zsh (k + 14) = (1, 0, 6)) (h15 : zsh (k + 15) = (0, 1, 0)) (hw : zNew w (k + 1)) : zC G mX6_init [.ref k] (k + 1) w (k + 16) (fun v w1 => v = none ∧ w1 = zsr (zsr (zsr (zsr (zsr (zsr (zsr (zsr (zsr (zsr (zsr (zsr (zsr (zsr (zsr (zsi w k 1 (1)) k 2 (some (k + 1))) k 3 (some (k + 2))) k 4 (some (k + 3))) k 5 (some (k + 4))) k 6 (some (k + 5))) k 7 (some (k + 6))) k 8 (some (k + 7))) k 9 (some (k + 8))) k 10 (some (k + 9))) k 11 (some (k + 10))) k 12 (some (k + 11))) k 13 (some (k + 12))) k 14 (some (k + 13))) k 15 (some (k + 14))) k 16 (some (k + 15))) := by
  refine zC_of (M := mX6_init) (lo := [_]) kcX6_init (Nat.le_of_ble_eq_true rfl) rfl (fun X hX hE => ?_)
  have nw0 := hw
  refine zk_aload_n hX dX6_init_0 rfl ?_
  refine zk_objInit hX dX6_init_1 mlX6_3 obI obC (by decide) (by decide) ?_
  refine zk_aload_n hX dX6_init_4 rfl ?_
  refine zk_iconst (v := 1) hX dX6_init_5 (by decide) ?_
  refine zk_putI hX dX6_init_6 plX6_9 (fun _ => rfl) (by omega) h0 rfl rfl ?_
  have nw1 := zNew_i (k := k) (j := 1) (x := (1)) nw0 (by omega)
  refine zk_aload_n hX dX6_init_9 rfl ?_
  refine zk_bipush (v := 6) hX dX6_init_10 (by decide) ?_
  refine zk_newa1 (t := 0) (N := 6) hX dX6_init_12 aC_int rfl rfl (by decide) (by decide) (by decide) (show k + 1 < 166 by omega) h1 (nw1 (k + 1) (by omega)) ⟨by decide, by decide⟩ ?_
  refine zk_nr2 (n' := k + 2) (cells' := 1) (slots' := 6) (w' := _) (st' := [.ref (k + 1), .ref k]) rfl rfl rfl rfl rfl ?_
  refine zk_putR hX dX6_init_14 plX6_15 (fun _ => rfl) (by omega) h0 rfl rfl ?_
  have nw2 := zNew_r (k := k) (j := 2) (x := (some (k + 1))) nw1 (by omega)
  refine zk_aload_n hX dX6_init_17 rfl ?_
  refine zk_bipush (v := 6) hX dX6_init_18 (by decide) ?_
  refine zk_newa1 (t := 0) (N := 6) hX dX6_init_20 aC_int rfl rfl (by decide) (by decide) (by decide) (show k + 2 < 166 by omega) h2 (nw2 (k + 2) (by omega)) ⟨by decide, by decide⟩ ?_
  refine zk_nr2 (n' := k + 3) (cells' := 2) (slots' := 12) (w' := _) (st' := [.ref (k + 2), .ref k]) rfl rfl rfl rfl rfl ?_
  refine zk_putR hX dX6_init_22 plX6_19 (fun _ => rfl) (by omega) h0 rfl rfl ?_
  have nw3 := zNew_r (k := k) (j := 3) (x := (some (k + 2))) nw2 (by omega)
  refine zk_aload_n hX dX6_init_25 rfl ?_
  refine zk_sipush (v := 4096) hX dX6_init_26 (by decide) ?_
  refine zk_newa1 (t := 1) (N := 4096) hX dX6_init_29 aC_byte rfl rfl (by decide) (by decide) (by decide) (show k + 3 < 166 by omega) h3 (nw3 (k + 3) (by omega)) ⟨by decide, by decide⟩ ?_
  refine zk_nr2 (n' := k + 4) (cells' := 3) (slots' := 4108) (w' := _) (st' := [.ref (k + 3), .ref k]) rfl rfl rfl rfl rfl ?_
  refine zk_putR hX dX6_init_31 plX6_22 (fun _ => rfl) (by omega) h0 rfl rfl ?_
  have nw4 := zNew_r (k := k) (j := 4) (x := (some (k + 3))) nw3 (by omega)
  refine zk_aload_n hX dX6_init_34 rfl ?_
  refine zk_sipush (v := 4096) hX dX6_init_35 (by decide) ?_
  refine zk_newa2 (N := 4096) hX dX6_init_38 aC_long (by decide) (by decide) (by decide) (show k + 4 < 166 by omega) h4 (nw4 (k + 4) (by omega)) ⟨by decide, by decide⟩ ?_
  refine zk_nr2 (n' := k + 5) (cells' := 4) (slots' := 8204) (w' := _) (st' := [.ref (k + 4), .ref k]) rfl rfl rfl rfl rfl ?_
  refine zk_putR hX dX6_init_40 plX6_26 (fun _ => rfl) (by omega) h0 rfl rfl ?_
  have nw5 := zNew_r (k := k) (j := 5) (x := (some (k + 4))) nw4 (by omega)
  refine zk_aload_n hX dX6_init_43 rfl ?_
  refine zk_sipush (v := 4096) hX dX6_init_44 (by decide) ?_
  refine zk_newa2 (N := 4096) hX dX6_init_47 aC_long (by decide) (by decide) (by decide) (show k + 5 < 166 by omega) h5 (nw5 (k + 5) (by omega)) ⟨by decide, by decide⟩ ?_
  refine zk_nr2 (n' := k + 6) (cells' := 5) (slots' := 12300) (w' := _) (st' := [.ref (k + 5), .ref k]) rfl rfl rfl rfl rfl ?_
  refine zk_putR hX dX6_init_49 plX6_30 (fun _ => rfl) (by omega) h0 rfl rfl ?_
  have nw6 := zNew_r (k := k) (j := 6) (x := (some (k + 5))) nw5 (by omega)
  refine zk_aload_n hX dX6_init_52 rfl ?_
  refine zk_sipush (v := 4096) hX dX6_init_53 (by decide) ?_
  refine zk_newa2 (N := 4096) hX dX6_init_56 aC_long (by decide) (by decide) (by decide) (show k + 6 < 166 by omega) h6 (nw6 (k + 6) (by omega)) ⟨by decide, by decide⟩ ?_
  refine zk_nr2 (n' := k + 7) (cells' := 6) (slots' := 16396) (w' := _) (st' := [.ref (k + 6), .ref k]) rfl rfl rfl rfl rfl ?_
  refine zk_putR hX dX6_init_58 plX6_33 (fun _ => rfl) (by omega) h0 rfl rfl ?_
  have nw7 := zNew_r (k := k) (j := 7) (x := (some (k + 6))) nw6 (by omega)
  refine zk_aload_n hX dX6_init_61 rfl ?_
  refine zk_sipush (v := 4096) hX dX6_init_62 (by decide) ?_
  refine zk_newa2 (N := 4096) hX dX6_init_65 aC_long (by decide) (by decide) (by decide) (show k + 7 < 166 by omega) h7 (nw7 (k + 7) (by omega)) ⟨by decide, by decide⟩ ?_
  refine zk_nr2 (n' := k + 8) (cells' := 7) (slots' := 20492) (w' := _) (st' := [.ref (k + 7), .ref k]) rfl rfl rfl rfl rfl ?_
  refine zk_putR hX dX6_init_67 plX6_36 (fun _ => rfl) (by omega) h0 rfl rfl ?_
  have nw8 := zNew_r (k := k) (j := 8) (x := (some (k + 7))) nw7 (by omega)
  refine zk_aload_n hX dX6_init_70 rfl ?_
  refine zk_bipush (v := 6) hX dX6_init_71 (by decide) ?_
  refine zk_newa1 (t := 0) (N := 6) hX dX6_init_73 aC_int rfl rfl (by decide) (by decide) (by decide) (show k + 8 < 166 by omega) h8 (nw8 (k + 8) (by omega)) ⟨by decide, by decide⟩ ?_
  refine zk_nr2 (n' := k + 9) (cells' := 8) (slots' := 20498) (w' := _) (st' := [.ref (k + 8), .ref k]) rfl rfl rfl rfl rfl ?_
  refine zk_putR hX dX6_init_75 plX6_39 (fun _ => rfl) (by omega) h0 rfl rfl ?_
  have nw9 := zNew_r (k := k) (j := 9) (x := (some (k + 8))) nw8 (by omega)
  refine zk_aload_n hX dX6_init_78 rfl ?_
  refine zk_sipush (v := 750) hX dX6_init_79 (by decide) ?_
  refine zk_newa1 (t := 1) (N := 750) hX dX6_init_82 aC_byte rfl rfl (by decide) (by decide) (by decide) (show k + 9 < 166 by omega) h9 (nw9 (k + 9) (by omega)) ⟨by decide, by decide⟩ ?_
  refine zk_nr2 (n' := k + 10) (cells' := 9) (slots' := 21248) (w' := _) (st' := [.ref (k + 9), .ref k]) rfl rfl rfl rfl rfl ?_
  refine zk_putR hX dX6_init_84 plX6_42 (fun _ => rfl) (by omega) h0 rfl rfl ?_
  have nw10 := zNew_r (k := k) (j := 10) (x := (some (k + 9))) nw9 (by omega)
  refine zk_aload_n hX dX6_init_87 rfl ?_
  refine zk_sipush (v := 750) hX dX6_init_88 (by decide) ?_
  refine zk_newa2 (N := 750) hX dX6_init_91 aC_long (by decide) (by decide) (by decide) (show k + 10 < 166 by omega) h10 (nw10 (k + 10) (by omega)) ⟨by decide, by decide⟩ ?_
  refine zk_nr2 (n' := k + 11) (cells' := 10) (slots' := 21998) (w' := _) (st' := [.ref (k + 10), .ref k]) rfl rfl rfl rfl rfl ?_
  refine zk_putR hX dX6_init_93 plX6_45 (fun _ => rfl) (by omega) h0 rfl rfl ?_
  have nw11 := zNew_r (k := k) (j := 11) (x := (some (k + 10))) nw10 (by omega)
  refine zk_aload_n hX dX6_init_96 rfl ?_
  refine zk_sipush (v := 750) hX dX6_init_97 (by decide) ?_
  refine zk_newa2 (N := 750) hX dX6_init_100 aC_long (by decide) (by decide) (by decide) (show k + 11 < 166 by omega) h11 (nw11 (k + 11) (by omega)) ⟨by decide, by decide⟩ ?_
  refine zk_nr2 (n' := k + 12) (cells' := 11) (slots' := 22748) (w' := _) (st' := [.ref (k + 11), .ref k]) rfl rfl rfl rfl rfl ?_
  refine zk_putR hX dX6_init_102 plX6_48 (fun _ => rfl) (by omega) h0 rfl rfl ?_
  have nw12 := zNew_r (k := k) (j := 12) (x := (some (k + 11))) nw11 (by omega)
  refine zk_aload_n hX dX6_init_105 rfl ?_
  refine zk_bipush (v := 125) hX dX6_init_106 (by decide) ?_
  refine zk_newa2 (N := 125) hX dX6_init_108 aC_long (by decide) (by decide) (by decide) (show k + 12 < 166 by omega) h12 (nw12 (k + 12) (by omega)) ⟨by decide, by decide⟩ ?_
  refine zk_nr2 (n' := k + 13) (cells' := 12) (slots' := 22873) (w' := _) (st' := [.ref (k + 12), .ref k]) rfl rfl rfl rfl rfl ?_
  refine zk_putR hX dX6_init_110 plX6_51 (fun _ => rfl) (by omega) h0 rfl rfl ?_
  have nw13 := zNew_r (k := k) (j := 13) (x := (some (k + 12))) nw12 (by omega)
  refine zk_aload_n hX dX6_init_113 rfl ?_
  refine zk_bipush (v := 125) hX dX6_init_114 (by decide) ?_
  refine zk_newa2 (N := 125) hX dX6_init_116 aC_long (by decide) (by decide) (by decide) (show k + 13 < 166 by omega) h13 (nw13 (k + 13) (by omega)) ⟨by decide, by decide⟩ ?_
  refine zk_nr2 (n' := k + 14) (cells' := 13) (slots' := 22998) (w' := _) (st' := [.ref (k + 13), .ref k]) rfl rfl rfl rfl rfl ?_
  refine zk_putR hX dX6_init_118 plX6_54 (fun _ => rfl) (by omega) h0 rfl rfl ?_
  have nw14 := zNew_r (k := k) (j := 14) (x := (some (k + 13))) nw13 (by omega)
  refine zk_aload_n hX dX6_init_121 rfl ?_
  refine zk_bipush (v := 6) hX dX6_init_122 (by decide) ?_
  refine zk_newa1 (t := 0) (N := 6) hX dX6_init_124 aC_int rfl rfl (by decide) (by decide) (by decide) (show k + 14 < 166 by omega) h14 (nw14 (k + 14) (by omega)) ⟨by decide, by decide⟩ ?_
  refine zk_nr2 (n' := k + 15) (cells' := 14) (slots' := 23004) (w' := _) (st' := [.ref (k + 14), .ref k]) rfl rfl rfl rfl rfl ?_
  refine zk_putR hX dX6_init_126 plX6_57 (fun _ => rfl) (by omega) h0 rfl rfl ?_
  have nw15 := zNew_r (k := k) (j := 15) (x := (some (k + 14))) nw14 (by omega)
  refine zk_aload_n hX dX6_init_129 rfl ?_
  refine zk_new hX dX6_init_130 nwX6_60 (show k + 15 < 166 by omega) h15 (nw15 (k + 15) (by omega)) ⟨by decide, by decide⟩ ?_
  refine zk_nr2 (n' := k + 16) (cells' := 15) (slots' := 23006) (w' := _) (st' := [.ref (k + 15), .ref k]) rfl rfl rfl rfl rfl ?_
  refine zk_dup hX dX6_init_133 rfl ?_
  refine zk_callIN (M' := mX1_init) hX dX6_init_134 kcX1_init mnX6_62 imX1_init ⟨rfl, rfl⟩ rfl (s_X1_init (k + 15) _ (by omega) h15 (nw15.le (by omega))) rfl rfl (Nat.le_of_ble_eq_true rfl) ⟨by decide, by decide⟩ (fun v w1 hq => ?_)
  obtain ⟨rfl, rfl⟩ := hq
  refine zk_nr2 (n' := k + 16) (cells' := 15) (slots' := 23006) (w' := _) (st' := [.ref (k + 15), .ref k]) rfl rfl rfl rfl rfl ?_
  refine zk_putR hX dX6_init_137 plX6_63 (fun _ => rfl) (by omega) h0 rfl rfl ?_
  have nw16 := zNew_r (k := k) (j := 16) (x := (some (k + 15))) nw15 (by omega)
  exact zk_vret hX hE rfl ⟨rfl, rfl⟩ dX6_init_140 ⟨rfl, rfl⟩
theorem s_X10_init {G : zG} (k : Nat) (w : zW) (hb : k + 16 ≤ 166) (h0 : zsh k = (0, 10, 0)) (h1 : zsh (k + 1) = (1, 0, 4096)) (h2 : zsh (k + 2) = (1, 0, 4096)) (h3 : zsh (k + 3) = (1, 0, 8)) (h4 : zsh (k + 4) = (1, 0, 8)) (h5 : zsh (k + 5) = (3, 7, 8)) (h14 : zsh (k + 14) = (1, 0, 2048)) (h15 : zsh (k + 15) = (1, 0, 8)) (hm : ∀ j, j < 8 → zsh (k + 5 + 1 + j) = (1, 0, 8)) (hw : zNew w (k + 1)) : zC G mX10_init [.ref k] (k + 1) w (k + 16) (fun v w1 => v = none ∧ w1 = zsr (zsr (zsr (zmw (zsr (zsr (zsr (zsr w k 0 (some (k + 1))) k 1 (some (k + 2))) k 4 (some (k + 3))) k 5 (some (k + 4))) (k + 5) 8) k 6 (some (k + 5))) k 7 (some (k + 14))) k 8 (some (k + 15))) := by
  refine zC_of (M := mX10_init) (lo := [_]) kcX10_init (Nat.le_of_ble_eq_true rfl) rfl (fun X hX hE => ?_)
  have nw0 := hw
  refine zk_aload_n hX dX10_init_0 rfl ?_
  refine zk_objInit hX dX10_init_1 mlX10_3 obI obC (by decide) (by decide) ?_
  refine zk_aload_n hX dX10_init_4 rfl ?_
  refine zk_sipush (v := 4096) hX dX10_init_5 (by decide) ?_
  refine zk_newa1 (t := 0) (N := 4096) hX dX10_init_8 aC_int rfl rfl (by decide) (by decide) (by decide) (show k + 1 < 166 by omega) h1 (nw0 (k + 1) (by omega)) ⟨by decide, by decide⟩ ?_
  refine zk_nr2 (n' := k + 2) (cells' := 1) (slots' := 4096) (w' := _) (st' := [.ref (k + 1), .ref k]) rfl rfl rfl rfl rfl ?_
  refine zk_putR hX dX10_init_10 plX10_9 (fun _ => rfl) (by omega) h0 rfl rfl ?_
  have nw1 := zNew_r (k := k) (j := 0) (x := (some (k + 1))) nw0 (by omega)
  refine zk_aload_n hX dX10_init_13 rfl ?_
  refine zk_sipush (v := 4096) hX dX10_init_14 (by decide) ?_
  refine zk_newa1 (t := 0) (N := 4096) hX dX10_init_17 aC_int rfl rfl (by decide) (by decide) (by decide) (show k + 2 < 166 by omega) h2 (nw1 (k + 2) (by omega)) ⟨by decide, by decide⟩ ?_
  refine zk_nr2 (n' := k + 3) (cells' := 2) (slots' := 8192) (w' := _) (st' := [.ref (k + 2), .ref k]) rfl rfl rfl rfl rfl ?_
  refine zk_putR hX dX10_init_19 plX10_15 (fun _ => rfl) (by omega) h0 rfl rfl ?_
  have nw2 := zNew_r (k := k) (j := 1) (x := (some (k + 2))) nw1 (by omega)
  refine zk_aload_n hX dX10_init_22 rfl ?_
  refine zk_bipush (v := 8) hX dX10_init_23 (by decide) ?_
  refine zk_newa1 (t := 0) (N := 8) hX dX10_init_25 aC_int rfl rfl (by decide) (by decide) (by decide) (show k + 3 < 166 by omega) h3 (nw2 (k + 3) (by omega)) ⟨by decide, by decide⟩ ?_
  refine zk_nr2 (n' := k + 4) (cells' := 3) (slots' := 8200) (w' := _) (st' := [.ref (k + 3), .ref k]) rfl rfl rfl rfl rfl ?_
  refine zk_putR hX dX10_init_27 plX10_18 (fun _ => rfl) (by omega) h0 rfl rfl ?_
  have nw3 := zNew_r (k := k) (j := 4) (x := (some (k + 3))) nw2 (by omega)
  refine zk_aload_n hX dX10_init_30 rfl ?_
  refine zk_bipush (v := 8) hX dX10_init_31 (by decide) ?_
  refine zk_newa1 (t := 0) (N := 8) hX dX10_init_33 aC_int rfl rfl (by decide) (by decide) (by decide) (show k + 4 < 166 by omega) h4 (nw3 (k + 4) (by omega)) ⟨by decide, by decide⟩ ?_
  refine zk_nr2 (n' := k + 5) (cells' := 4) (slots' := 8208) (w' := _) (st' := [.ref (k + 4), .ref k]) rfl rfl rfl rfl rfl ?_
  refine zk_putR hX dX10_init_35 plX10_21 (fun _ => rfl) (by omega) h0 rfl rfl ?_
  have nw4 := zNew_r (k := k) (j := 5) (x := (some (k + 4))) nw3 (by omega)
  refine zk_aload_n hX dX10_init_38 rfl ?_
  refine zk_bipush (v := 8) hX dX10_init_39 (by decide) ?_
  refine zk_bipush (v := 8) hX dX10_init_41 (by decide) ?_
  refine zk_mna (N := 8) (K := 8) hX dX10_init_43 clX10_24 aC_int (by decide) (by decide) (by decide) (by decide) ⟨by decide, by decide⟩ (show k + 5 + 8 < 166 by omega) h5 hm (nw4.le (by omega)) ⟨by decide, by decide⟩ ?_
  have nw5 := zNew_m (m := k + 14) (N := 8) (nw4.le (m := k + 5) (by omega)) (by omega)
  refine zk_nr2 (n' := k + 14) (cells' := 13) (slots' := 8280) (w' := _) (st' := [.ref (k + 5), .ref k]) rfl rfl rfl rfl rfl ?_
  refine zk_putR hX dX10_init_47 plX10_26 (fun _ => rfl) (by omega) h0 rfl rfl ?_
  have nw6 := zNew_r (k := k) (j := 6) (x := (some (k + 5))) nw5 (by omega)
  refine zk_aload_n hX dX10_init_50 rfl ?_
  refine zk_sipush (v := 2048) hX dX10_init_51 (by decide) ?_
  refine zk_newa1 (t := 0) (N := 2048) hX dX10_init_54 aC_int rfl rfl (by decide) (by decide) (by decide) (show k + 14 < 166 by omega) h14 (nw6 (k + 14) (by omega)) ⟨by decide, by decide⟩ ?_
  refine zk_nr2 (n' := k + 15) (cells' := 14) (slots' := 10328) (w' := _) (st' := [.ref (k + 14), .ref k]) rfl rfl rfl rfl rfl ?_
  refine zk_putR hX dX10_init_56 plX10_29 (fun _ => rfl) (by omega) h0 rfl rfl ?_
  have nw7 := zNew_r (k := k) (j := 7) (x := (some (k + 14))) nw6 (by omega)
  refine zk_aload_n hX dX10_init_59 rfl ?_
  refine zk_bipush (v := 8) hX dX10_init_60 (by decide) ?_
  refine zk_newa1 (t := 0) (N := 8) hX dX10_init_62 aC_int rfl rfl (by decide) (by decide) (by decide) (show k + 15 < 166 by omega) h15 (nw7 (k + 15) (by omega)) ⟨by decide, by decide⟩ ?_
  refine zk_nr2 (n' := k + 16) (cells' := 15) (slots' := 10336) (w' := _) (st' := [.ref (k + 15), .ref k]) rfl rfl rfl rfl rfl ?_
  refine zk_putR hX dX10_init_64 plX10_32 (fun _ => rfl) (by omega) h0 rfl rfl ?_
  have nw8 := zNew_r (k := k) (j := 8) (x := (some (k + 15))) nw7 (by omega)
  exact zk_vret hX hE rfl ⟨rfl, rfl⟩ dX10_init_67 ⟨rfl, rfl⟩
