/-! digest of the class, whole -/
theorem zit_0 {f : Nat → Int64 → Int64} {h : Int64} : zit f 0 h = h := rfl
def cd1 (w : zW) (n : Nat) : Int64 := mx (mx (zit (fun k h => mx h (c_count w n k)) 10 17) (w.1 0 8)) (zcode (w.1 44 0) (w.1 44 1) (w.1 44 2))
def cd2 (w : zW) (D : zD) (h : Int64) : Int64 := zit (kJ w) (dJ D) (zit (kF w) (dF D) (zit (kW w) (dW D) h))
def cd3 (w : zW) (D : zD) (n : Nat) (h : Int64) : Int64 := zit (kP w (dJ D)) n h
def cd4 (w : zW) (b : zBd) (h : Int64) : Int64 := zit (fun k h => kB b (w.1 (96 + 3 * k) 2) k h) 6 h
def cd5 (w : zW) (nl nc : Nat) (h : Int64) : Int64 := zit (kC w) nc (zit (kL w) nl h)
def cd6 (w : zW) (h : Int64) : Int64 := zit (fun r h => kS (fun i => w.1 (4 + 2 * r + 1) i) (w.1 (4 + 2 * r) 0) h) 6 h
def cd7 (w : zW) (h : Int64) : Int64 := zit (fun r h => kS (fun i => w.1 (17 + 2 * r + 1) i) (w.1 (17 + 2 * r) 0) h) 4 h
theorem s_X11_digest {G : zG} {w : zW} {D : zD} {b : zBd} {n nl nc : Nat} (hw : zWf w) (hD : zDok D) (hH : cHd w 26 D) (hn : n ≤ 12) (hP : w.1 0 10 = nI n) (hB : cBs w b) (h8 : nl ≤ 8) (h24 : nc ≤ 24) (hK : w.1 114 0 = nI nl) (hC : w.1 114 2 = nI nc) (hRw : ∀ r, r < 6 → zSz (w.1 (4 + 2 * r) 0) 40) (hTx : ∀ r, r < 4 → zSz (w.1 (17 + 2 * r) 0) 80) :
    zEl G mX11_digest [.ref 0] w (cd7 w (cd6 w (cd5 w nl nc (cd4 w b (cd3 w D n (cd2 w D (cd1 w n))))))) w := by
  have h6 := hD.1.2.2
  generalize e7 : cd7 w (cd6 w (cd5 w nl nc (cd4 w b (cd3 w D n (cd2 w D (cd1 w n)))))) = res
  refine zC_of (lo := [_, _, _, _]) kcX11_digest (Nat.le_of_ble_eq_true rfl) rfl (fun X hX hE => ?_)
  have l7 : ∀ q, cd7 w q = res → ∀ m i, i + m = 4 → zk0 G X mX11_digest 154 [.ref 0, .long (zit (fun r h => kS (fun i => w.1 (17 + 2 * r + 1) i) (w.1 (17 + 2 * r) 0) h) i q), .null, .int (nI i)] [] w := by
    intro q eq m
    induction m with
    | zero =>
      intro i hi
      obtain rfl : i = 4 := by omega
      refine zk_iload_n hX dX11_digest_154 rfl ?_
      refine zk_iconst (v := 4) hX dX11_digest_155 (by decide) ?_
      refine zk_icmp_ge (tgt := 176) hX dX11_digest_156 (by decide) (fun c156 => ?_) (fun c156 => ?_)
      rotate_left
      · exact absurd (by decide) c156
      refine zk_lload_n hX dX11_digest_176 rfl ?_
      refine zk_lret hX hE rfl ⟨rfl, rfl⟩ dX11_digest_177 ⟨_, rfl, ?_⟩
      exact ⟨eq, rfl⟩
    | succ m ih =>
      intro i hi
      refine zk_iload_n hX dX11_digest_154 rfl ?_
      refine zk_iconst (v := 4) hX dX11_digest_155 (by decide) ?_
      refine zk_icmp_ge (tgt := 176) hX dX11_digest_156 (by decide) (fun c156 => ?_) (fun c156 => ?_)
      · exact absurd c156 (nI_ge (b := 4) (by omega) (by decide))
      refine zk_aload_n hX dX11_digest_159 rfl ?_
      refine zk_getR hX dX11_digest_160 flX11_25 k_0 z_0 (hw _ _ (by decide) |>.trans r_0_2) ?_
      refine zk_iload_n hX dX11_digest_163 rfl ?_
      refine zk_texts hX hw dX11_digest_164 rfl (by first | assumption | omega) ?_
      refine zk_lload_n hX dX11_digest_165 rfl ?_
      refine zk_V1l hX dX11_digest_166 kcX8_digestOn mlX11_509 viX8_digestOn rfl (zRwT0 (by first | assumption | omega)) (zRw_t _ (by first | assumption | omega)).2.1 (s_X8_digestOn (zRwT (by omega)) hw (by decide) (hTx i (by omega)) _) (Nat.le_of_ble_eq_true rfl) rfl ?_
      refine zk_lstore_n (lo' := [_, _, _, _]) hX dX11_digest_169 (Nat.le_of_ble_eq_true rfl) rfl rfl ?_
      refine zk_iinc (lo' := [_, _, _, _]) hX dX11_digest_170 rfl (by first | exact zinc _ | exact rfl) (Nat.le_of_ble_eq_true rfl) rfl rfl ?_
      refine zk_goto (tgt := 154) hX dX11_digest_173 (by decide) ?_
      exact ih (i + 1) (by omega)
  have l6 : ∀ q, cd7 w (cd6 w q) = res → ∀ m i, i + m = 6 → zk0 G X mX11_digest 129 [.ref 0, .long (zit (fun r h => kS (fun i => w.1 (4 + 2 * r + 1) i) (w.1 (4 + 2 * r) 0) h) i q), .null, .int (nI i)] [] w := by
    intro q eq m
    induction m with
    | zero =>
      intro i hi
      obtain rfl : i = 6 := by omega
      refine zk_iload_n hX dX11_digest_129 rfl ?_
      refine zk_bipush (v := 6) hX dX11_digest_130 (by decide) ?_
      refine zk_icmp_ge (tgt := 152) hX dX11_digest_132 (by decide) (fun c132 => ?_) (fun c132 => ?_)
      rotate_left
      · exact absurd (by decide) c132
      refine zk_iconst (v := 0) hX dX11_digest_152 (by decide) ?_
      refine zk_istore_n (lo' := [_, _, _, _]) hX dX11_digest_153 (Nat.le_of_ble_eq_true rfl) rfl rfl ?_
      have h9 := l7 _ eq 4 0 (by omega)
      rw [zit_0] at h9
      exact h9
    | succ m ih =>
      intro i hi
      refine zk_iload_n hX dX11_digest_129 rfl ?_
      refine zk_bipush (v := 6) hX dX11_digest_130 (by decide) ?_
      refine zk_icmp_ge (tgt := 152) hX dX11_digest_132 (by decide) (fun c132 => ?_) (fun c132 => ?_)
      · exact absurd c132 (nI_ge (b := 6) (by omega) (by decide))
      refine zk_aload_n hX dX11_digest_135 rfl ?_
      refine zk_getR hX dX11_digest_136 flX11_18 k_0 z_0 (hw _ _ (by decide) |>.trans r_0_1) ?_
      refine zk_iload_n hX dX11_digest_139 rfl ?_
      refine zk_rows hX hw dX11_digest_140 rfl (by first | assumption | omega) ?_
      refine zk_lload_n hX dX11_digest_141 rfl ?_
      refine zk_V1l hX dX11_digest_142 kcX8_digestOn mlX11_509 viX8_digestOn rfl (zRwR0 (by first | assumption | omega)) (zRw_r _ (by first | assumption | omega)).2.1 (s_X8_digestOn (zRwR (by omega)) hw (by decide) (hRw i (by omega)) _) (Nat.le_of_ble_eq_true rfl) rfl ?_
      refine zk_lstore_n (lo' := [_, _, _, _]) hX dX11_digest_145 (Nat.le_of_ble_eq_true rfl) rfl rfl ?_
      refine zk_iinc (lo' := [_, _, _, _]) hX dX11_digest_146 rfl (by first | exact zinc _ | exact rfl) (Nat.le_of_ble_eq_true rfl) rfl rfl ?_
      refine zk_goto (tgt := 129) hX dX11_digest_149 (by decide) ?_
      exact ih (i + 1) (by omega)
  have l4 : ∀ q, cd7 w (cd6 w (cd5 w nl nc (cd4 w b q))) = res → ∀ m i, i + m = 6 → zk0 G X mX11_digest 95 [.ref 0, .long (zit (fun k h => kB b (w.1 (96 + 3 * k) 2) k h) i q), .null, .int (nI i)] [] w := by
    intro q eq m
    induction m with
    | zero =>
      intro i hi
      obtain rfl : i = 6 := by omega
      refine zk_iload_n hX dX11_digest_95 rfl ?_
      refine zk_bipush (v := 6) hX dX11_digest_96 (by decide) ?_
      refine zk_icmp_ge (tgt := 118) hX dX11_digest_98 (by decide) (fun c98 => ?_) (fun c98 => ?_)
      rotate_left
      · exact absurd (by decide) c98
      refine zk_aload_n hX dX11_digest_118 rfl ?_
      refine zk_getR hX dX11_digest_119 flX11_76 k_0 z_0 (hw _ _ (by decide) |>.trans r_0_12) ?_
      refine zk_lload_n hX dX11_digest_122 rfl ?_
      refine zk_V1l hX dX11_digest_123 kcX4_digestOn mlX11_508 viX4_digestOn rfl k_114 z_114 (s_X4_digestOn hw h8 h24 hK hC _) (Nat.le_of_ble_eq_true rfl) rfl ?_
      refine zk_lstore_n (lo' := [_, _, _, _]) hX dX11_digest_126 (Nat.le_of_ble_eq_true rfl) rfl rfl ?_
      refine zk_iconst (v := 0) hX dX11_digest_127 (by decide) ?_
      refine zk_istore_n (lo' := [_, _, _, _]) hX dX11_digest_128 (Nat.le_of_ble_eq_true rfl) rfl rfl ?_
      have h9 := l6 _ eq 6 0 (by omega)
      rw [zit_0] at h9
      exact h9
    | succ m ih =>
      intro i hi
      refine zk_iload_n hX dX11_digest_95 rfl ?_
      refine zk_bipush (v := 6) hX dX11_digest_96 (by decide) ?_
      refine zk_icmp_ge (tgt := 118) hX dX11_digest_98 (by decide) (fun c98 => ?_) (fun c98 => ?_)
      · exact absurd c98 (nI_ge (b := 6) (by omega) (by decide))
      refine zk_aload_n hX dX11_digest_101 rfl ?_
      refine zk_getR hX dX11_digest_102 flX11_68 k_0 z_0 (hw _ _ (by decide) |>.trans r_0_11) ?_
      refine zk_iload_n hX dX11_digest_105 rfl ?_
      refine zk_beasts hX hw dX11_digest_106 rfl (by first | assumption | omega) ?_
      refine zk_lload_n hX dX11_digest_107 rfl ?_
      refine zk_V1l hX dX11_digest_108 kcX0_digestOn mlX11_507 viX0_digestOn rfl (zBek (by first | assumption | omega)) (zBez _ (by first | assumption | omega)).1 (s_X0_digestOn hw (by omega) hB _) (Nat.le_of_ble_eq_true rfl) rfl ?_
      refine zk_lstore_n (lo' := [_, _, _, _]) hX dX11_digest_111 (Nat.le_of_ble_eq_true rfl) rfl rfl ?_
      refine zk_iinc (lo' := [_, _, _, _]) hX dX11_digest_112 rfl (by first | exact zinc _ | exact rfl) (Nat.le_of_ble_eq_true rfl) rfl rfl ?_
      refine zk_goto (tgt := 95) hX dX11_digest_115 (by decide) ?_
      exact ih (i + 1) (by omega)
  have l3 : ∀ q, cd7 w (cd6 w (cd5 w nl nc (cd4 w b (cd3 w D n q)))) = res → ∀ m i, i + m = n → zk0 G X mX11_digest 61 [.ref 0, .long (zit (kP w (dJ D)) i q), .null, .int (nI i)] [] w := by
    intro q eq m
    induction m with
    | zero =>
      intro i hi
      obtain rfl : i = n := by omega
      refine zk_iload_n hX dX11_digest_61 rfl ?_
      refine zk_aload_n hX dX11_digest_62 rfl ?_
      refine zk_getI hX dX11_digest_63 flX11_213 k_0 z_0 ?_
      refine zk_icmp_ge (tgt := 93) hX dX11_digest_66 (by decide) (fun c66 => ?_) (fun c66 => ?_)
      rotate_left
      · exact absurd (by rw [hP]; exact nI_le (Nat.le_refl _) (by omega)) c66
      refine zk_iconst (v := 0) hX dX11_digest_93 (by decide) ?_
      refine zk_istore_n (lo' := [_, _, _, _]) hX dX11_digest_94 (Nat.le_of_ble_eq_true rfl) rfl rfl ?_
      have h9 := l4 _ eq 6 0 (by omega)
      rw [zit_0] at h9
      exact h9
    | succ m ih =>
      intro i hi
      refine zk_iload_n hX dX11_digest_61 rfl ?_
      refine zk_aload_n hX dX11_digest_62 rfl ?_
      refine zk_getI hX dX11_digest_63 flX11_213 k_0 z_0 ?_
      refine zk_icmp_ge (tgt := 93) hX dX11_digest_66 (by decide) (fun c66 => ?_) (fun c66 => ?_)
      · exact absurd c66 (by rw [hP]; exact nI_ge (by omega) (by omega))
      refine zk_aload_n hX dX11_digest_69 rfl ?_
      refine zk_getR hX dX11_digest_70 flX11_61 k_0 z_0 (hw _ _ (by decide) |>.trans r_0_9) ?_
      refine zk_iload_n hX dX11_digest_73 rfl ?_
      refine zk_poses hX hw dX11_digest_74 rfl (by first | assumption | omega) ?_
      refine zk_lload_n hX dX11_digest_75 rfl ?_
      refine zk_aload_n hX dX11_digest_76 rfl ?_
      refine zk_getR hX dX11_digest_77 flX11_38 k_0 z_0 (hw _ _ (by decide) |>.trans r_0_4) ?_
      refine zk_getI hX dX11_digest_80 flX11_167 k_26 z_26 ?_
      rw [hH.1.2.2]
      refine zk_V2l hX dX11_digest_83 kcX5_digestOn mlX11_504 viX5_digestOn rfl (zPok (by first | assumption | omega)) (zPoz _ (by first | assumption | omega)).1 (s_X5_digestOn hw (by omega) h6 _) (Nat.le_of_ble_eq_true rfl) rfl ?_
      refine zk_lstore_n (lo' := [_, _, _, _]) hX dX11_digest_86 (Nat.le_of_ble_eq_true rfl) rfl rfl ?_
      refine zk_iinc (lo' := [_, _, _, _]) hX dX11_digest_87 rfl (by first | exact zinc _ | exact rfl) (Nat.le_of_ble_eq_true rfl) rfl rfl ?_
      refine zk_goto (tgt := 61) hX dX11_digest_90 (by decide) ?_
      exact ih (i + 1) (by omega)
  have l1 : ∀ m i, i + m = 10 → zk0 G X mX11_digest 6 [.ref 0, .long (zit (fun k h => mx h (c_count w n k)) i 17), .null, .int (nI i)] [] w := by
    intro m
    induction m with
    | zero =>
      intro i hi
      obtain rfl : i = 10 := by omega
      refine zk_iload_n hX dX11_digest_6 rfl ?_
      refine zk_bipush (v := 9) hX dX11_digest_7 (by decide) ?_
      refine zk_icmp_gt (tgt := 29) hX dX11_digest_9 (by decide) (fun c9 => ?_) (fun c9 => ?_)
      rotate_left
      · exact absurd (by decide) c9
      refine zk_lload_n hX dX11_digest_29 rfl ?_
      refine zk_aload_n hX dX11_digest_30 rfl ?_
      refine zk_getI hX dX11_digest_31 flX11_55 k_0 z_0 ?_
      refine zk_i2l hX dX11_digest_34 ?_
      refine zk_S2l hX dX11_digest_35 kcX11_mix mlX11_496 smX11_mix rfl (s_X11_mix _ _) (Nat.le_of_ble_eq_true rfl) rfl ?_
      refine zk_aload_n hX dX11_digest_38 rfl ?_
      refine zk_getR hX dX11_digest_39 flX11_48 k_0 z_0 (hw _ _ (by decide) |>.trans r_0_6) ?_
      refine zk_V0i hX dX11_digest_42 kcX3_code mlX11_201 viX3_code rfl k_44 z_44 (s_X3_code (Or.inl rfl)) (Nat.le_of_ble_eq_true rfl) rfl ?_
      refine zk_i2l hX dX11_digest_45 ?_
      refine zk_S2l hX dX11_digest_46 kcX11_mix mlX11_496 smX11_mix rfl (s_X11_mix _ _) (Nat.le_of_ble_eq_true rfl) rfl ?_
      refine zk_lstore_n (lo' := [_, _, _, _]) hX dX11_digest_49 (Nat.le_of_ble_eq_true rfl) rfl rfl ?_
      refine zk_aload_n hX dX11_digest_50 rfl ?_
      refine zk_getR hX dX11_digest_51 flX11_38 k_0 z_0 (hw _ _ (by decide) |>.trans r_0_4) ?_
      refine zk_lload_n hX dX11_digest_54 rfl ?_
      refine zk_V1l hX dX11_digest_55 kcX2_digestOn mlX11_500 viX2_digestOn rfl k_26 z_26 (s_X2_digestOn hw hD hH _) (Nat.le_of_ble_eq_true rfl) rfl ?_
      refine zk_lstore_n (lo' := [_, _, _, _]) hX dX11_digest_58 (Nat.le_of_ble_eq_true rfl) rfl rfl ?_
      refine zk_iconst (v := 0) hX dX11_digest_59 (by decide) ?_
      refine zk_istore_n (lo' := [_, _, _, _]) hX dX11_digest_60 (Nat.le_of_ble_eq_true rfl) rfl rfl ?_
      have h9 := l3 _ e7 n 0 (by omega)
      rw [zit_0] at h9
      exact h9
    | succ m ih =>
      intro i hi
      refine zk_iload_n hX dX11_digest_6 rfl ?_
      refine zk_bipush (v := 9) hX dX11_digest_7 (by decide) ?_
      refine zk_icmp_gt (tgt := 29) hX dX11_digest_9 (by decide) (fun c9 => ?_) (fun c9 => ?_)
      · exact absurd c9 (nI_nlt (a := 9) (by omega) (by omega))
      refine zk_lload_n hX dX11_digest_12 rfl ?_
      refine zk_aload_n hX dX11_digest_13 rfl ?_
      refine zk_iload_n hX dX11_digest_14 rfl ?_
      refine zk_V1i hX dX11_digest_15 kcX11_count mlX11_493 viX11_count rfl k_0 z_0 (s_X11_count hw hn hP (by omega)) (Nat.le_of_ble_eq_true rfl) rfl ?_
      refine zk_i2l hX dX11_digest_18 ?_
      refine zk_S2l hX dX11_digest_19 kcX11_mix mlX11_496 smX11_mix rfl (s_X11_mix _ _) (Nat.le_of_ble_eq_true rfl) rfl ?_
      refine zk_lstore_n (lo' := [_, _, _, _]) hX dX11_digest_22 (Nat.le_of_ble_eq_true rfl) rfl rfl ?_
      refine zk_iinc (lo' := [_, _, _, _]) hX dX11_digest_23 rfl (by first | exact zinc _ | exact rfl) (Nat.le_of_ble_eq_true rfl) rfl rfl ?_
      refine zk_goto (tgt := 6) hX dX11_digest_26 (by decide) ?_
      exact ih (i + 1) (by omega)
  refine zk_ldc2 hX dX11_digest_0 cnX11_491 ?_
  refine zk_lstore_n (lo' := [_, _, _, _]) hX dX11_digest_3 (Nat.le_of_ble_eq_true rfl) rfl rfl ?_
  refine zk_iconst (v := 0) hX dX11_digest_4 (by decide) ?_
  refine zk_istore_n (lo' := [_, _, _, _]) hX dX11_digest_5 (Nat.le_of_ble_eq_true rfl) rfl rfl ?_
  have h9 := l1 10 0 (by omega)
  rw [zit_0] at h9
  exact h9
