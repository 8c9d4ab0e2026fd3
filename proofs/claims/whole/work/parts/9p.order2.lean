/-! order: the class's call, whole -/
def cLs : List Nat := [147, 148, 149, 150, 151, 153, 154, 155, 156, 157, 158, 159, 160, 161, 162]
theorem s_X11_order {G : zG} {w : zW} {D : zD} {n a r T : Nat} {dd : Nat → Nat → Nat} {W : Nat → Nat → Option Nat} (hw : zWf w) (hD : zDok D) (hH : cHd w 26 D) (hRe : cRe w D) (hN : zpr (zsp D) (dJ D) ≤ 4096) (hT9 : T ≤ 99) (hS : w.1 0 8 = nI T) (hn : n ≤ 12) (hP : w.1 0 10 = nI n) (ha2 : a < 2 ^ n) (ha1 : 1 ≤ a) (h8 : zcnt a.testBit n ≤ 8) (hr : r < 6) (hh : ∀ p, p < n → a.testBit p = true → zheldk (w.1 (47 + 4 * p) 3))
    (hdl : ∀ p, p < n → ∀ j, j < dJ D → dd p j < zsp D j) (hd : ∀ p, p < n → ∀ j, j < dJ D → w.1 (48 + 4 * p) j = ztv D (dd p) j)
    (hW : ∀ i k, oWd (zadj (zsp D) (dJ D)) (rH D (-1) T) (fun i => zcd (zsp D) (dd (oSel a n i)) (dJ D)) i k (W i k)) :
    zCi G mX11_order [.ref 0, .int (nI a), .int (nI r)] w (fun b w' => (∀ i k, i < zcnt a.testBit n → k < zcnt a.testBit n → ∀ m, W i k = some m → m < 4096) ∧ ∃ U, oRec (zcnt a.testBit n) (oB W) U 0 ∧ ((¬ oV (zcnt a.testBit n) (oB W) U 0 none < 1000000 ∧ b = -9 ∧ zFr cLs [] [] w w') ∨ (oV (zcnt a.testBit n) (oB W) U 0 none < 1000000 ∧ b = nI (oV (zcnt a.testBit n) (oB W) U 0 none) ∧ ∃ X, oSeq (zcnt a.testBit n) (oB W) U X (zcnt a.testBit n) ∧ ∃ w1, zFr cLs [] [] w w1 ∧ cRowW w1 r (zcnt a.testBit n) (fun i => nI (oSel a n (X i))) w'))) := by
  have h12 : 2 ^ n ≤ 2 ^ 12 := Nat.pow_le_pow_right (by decide) hn
  have hc := hRe.2.2.2 hN
  have hs : w.1 131 0 = 0 := by rw [hRe.2.2.1, if_neg (by omega)]
  have hTb : cTab w D (-1) := ⟨hc.1, hc.2, by rw [zN_code hD]; exact hN⟩
  have pre : ∀ w1, zFr cLs [] [] w w1 → zWf w1 ∧ cHd w1 26 D ∧ cTab w1 D (-1) ∧ cStep w1 D ∧ (∀ p, p < n → w1.1 (48 + 4 * p) = w.1 (48 + 4 * p)) ∧ w1.1 0 = w.1 0 := fun w1 hF => ⟨zFr_wf hF hw, cHd_o hH (fun a h1 h2 => hF.2.1 a (by simp [cLs]; omega) (by omega)), cTab_f hTb hF (by decide), fun j hj => by rw [hF.2.1 132 (by decide) (by decide), hF.2.1 133 (by decide) (by decide)]; exact hRe.1 j hj, fun p hp => hF.2.1 (48 + 4 * p) (by simp [cLs]; omega) (by omega), hF.2.1 0 (by decide) (by decide)⟩
  have hcd : ∀ p, p < n → zcd (zsp D) (dd p) (dJ D) < zpr (zsp D) (dJ D) := fun p hp => zcd_lt (hdl p hp)
  generalize es : zcnt a.testBit n = s at *
  refine zC_of (lo := [_, _, _, _, _]) kcX11_order (Nat.le_of_ble_eq_true rfl) rfl (fun X hX hE => ?_)
  -- the row is shown
  have show_ : ∀ U Y w1, zFr cLs [] [] w w1 → w1.1 147 3 = nI s → (∀ i k, i < s → k < s → ∀ m, W i k = some m → m < 4096) → oRec s (oB W) U 0 → oV s (oB W) U 0 none < 1000000 → oSeq s (oB W) U Y s → (∀ i, i < s → w1.1 162 i = nI (oSel a n (Y i))) → ∀ z i w2, i + z = s → zFr [4 + 2 * r, 5 + 2 * r] [] [] w1 w2 → w2.1 (4 + 2 * r) 0 = nI s → (∀ q, q < i → w2.1 (5 + 2 * r) q = nI (oSel a n (Y q))) → zk0 G X mX11_order 186 [.ref 0, .int (nI a), .int (nI r), .int (nI (oV s (oB W) U 0 none)), .int (nI i)] [] w2 := by
    intro U Y w1 hF h3 hWm hR hV hSq hI z
    obtain ⟨p1, p2, p3, p4, p5, p6⟩ := pre w1 hF
    induction z with
    | zero =>
      intro i w2 hi hF2 g1 g2
      obtain rfl : i = s := by omega
      have hw2 := zFr_wf hF2 p1
      refine zk_iload hX dX11_order_186 rfl ?_
      refine zk_aload_n hX dX11_order_188 rfl ?_
      refine zk_getR hX dX11_order_189 flX11_90 k_0 z_0 (hw2 _ _ (by decide) |>.trans r_0_14) ?_
      refine zk_getI hX dX11_order_192 flX11_383 k_147 z_147 ?_
      refine zk_icmp_ge (tgt := 225) hX dX11_order_195 (by decide) (fun c195 => ?_) (fun c195 => ?_)
      rotate_left
      · exact absurd (by rw [hF2.2.1 147 (by simp; omega) (by decide), h3]; exact nI_le (Nat.le_refl _) (by omega)) c195
      refine zk_iload_n hX dX11_order_225 rfl ?_
      refine zk_iret hX hE rfl ⟨rfl, rfl⟩ dX11_order_226 ⟨_, rfl, ?_⟩
      exact ⟨hWm, U, hR, Or.inr ⟨hV, rfl, Y, hSq, w1, hF, hF2, g1, g2⟩⟩
    | succ z ih =>
      intro i w2 hi hF2 g1 g2
      have hw2 := zFr_wf hF2 p1
      have e162 : w2.1 162 i = nI (oSel a n (Y i)) := by rw [hF2.2.1 162 (by simp; omega) (by decide)]; exact hI i (by omega)
      refine zk_iload hX dX11_order_186 rfl ?_
      refine zk_aload_n hX dX11_order_188 rfl ?_
      refine zk_getR hX dX11_order_189 flX11_90 k_0 z_0 (hw2 _ _ (by decide) |>.trans r_0_14) ?_
      refine zk_getI hX dX11_order_192 flX11_383 k_147 z_147 ?_
      refine zk_icmp_ge (tgt := 225) hX dX11_order_195 (by decide) (fun c195 => ?_) (fun c195 => ?_)
      · exact absurd c195 (by rw [hF2.2.1 147 (by simp; omega) (by decide), h3]; exact nI_ge (by omega) (by omega))
      refine zk_aload_n hX dX11_order_198 rfl ?_
      refine zk_getR hX dX11_order_199 flX11_18 k_0 z_0 (hw2 _ _ (by decide) |>.trans r_0_1) ?_
      refine zk_iload_n hX dX11_order_202 rfl ?_
      refine zk_rows hX hw2 dX11_order_203 rfl (by first | assumption | omega) ?_
      refine zk_iload hX dX11_order_204 rfl ?_
      refine zk_aload_n hX dX11_order_206 rfl ?_
      refine zk_getR hX dX11_order_207 flX11_90 k_0 z_0 (hw2 _ _ (by decide) |>.trans r_0_14) ?_
      refine zk_getR hX dX11_order_210 flX11_386 k_147 z_147 (hw2 _ _ (by decide) |>.trans r_147_8) ?_
      refine zk_iload hX dX11_order_213 rfl ?_
      refine zk_ialdE hX dX11_order_215 rfl k_162 z_162 (by first | assumption | omega) rfl ?_
      rw [e162]
      refine zk_V2v hX dX11_order_216 kcX8_set mlX11_129 viX8_set rfl (zRwR0 (by first | assumption | omega)) (zRw_r _ (by first | assumption | omega)).2.1 (s_X8_set (zRwR hr) hw2 (m := s) (by omega) (by omega) g1 _) (Nat.le_of_ble_eq_true rfl) rfl ?_
      refine zk_iinc (lo' := [_, _, _, _, _]) hX dX11_order_219 rfl (by first | exact zinc _ | exact rfl) (Nat.le_of_ble_eq_true rfl) rfl rfl ?_
      refine zk_goto (tgt := 186) hX dX11_order_222 (by decide) ?_
      have hFi : zFr [4 + 2 * r, 5 + 2 * r] [] [] w1 (zsi w2 (4 + 2 * r + 1) i (nI (oSel a n (Y i)))) := zFr_t hF2 (zFr_i (by simp; omega) (by omega))
      refine ih (i + 1) _ (by omega) hFi (by rw [zsi_o (by omega)]; exact g1) (fun q hq => ?_)
      rw [show 4 + 2 * r + 1 = 5 + 2 * r by omega, zsi_1]
      by_cases e5 : q = i
      · rw [if_pos ⟨rfl, e5⟩, e5]
      · rw [if_neg (fun z => e5 z.2)]
        exact g2 q (by omega)
  have fin : ∀ w1 (i a4 : Int32), zFr cLs [] [] w w1 → w1.1 147 3 = nI s → (∀ i, i < s → w1.1 150 i = nI (oSel a n i) ∧ w1.1 151 i = nI (zcd (zsp D) (dd (oSel a n i)) (dJ D))) → zk0 G X mX11_order 137 [.ref 0, .int (nI a), .int (nI r), .int i, .null] [] w1 := by
    intro w1 i a4 hF h3 hst
    obtain ⟨p1, p2, p3, p4, p5, p6⟩ := pre w1 hF
    have co := s_X10_orderStops (G := G) (st := oSel a n) (c := fun i => zcd (zsp D) (dd (oSel a n i)) (dJ D)) (W := W) p1 hD p2 p4 hN p3 hT9 h8 h3 (fun i hi => ⟨(hst i hi).2, hcd _ (oSel_ok (by omega)).1⟩) (fun i hi => (hst i hi).1) hW
    by_cases q : ∃ U, oRec s (oB W) U 0 ∧ oV s (oB W) U 0 none < 1000000
    · refine zk_aload_n hX dX11_order_137 rfl ?_
      refine zk_getR hX dX11_order_138 flX11_90 k_0 z_0 (p1 _ _ (by decide) |>.trans r_0_14) ?_
      refine zk_aload_n hX dX11_order_141 rfl ?_
      refine zk_getR hX dX11_order_142 flX11_83 k_0 z_0 (p1 _ _ (by decide) |>.trans r_0_13) ?_
      refine zk_aload_n hX dX11_order_145 rfl ?_
      refine zk_getR hX dX11_order_146 flX11_38 k_0 z_0 (p1 _ _ (by decide) |>.trans r_0_4) ?_
      refine zk_aload_n hX dX11_order_149 rfl ?_
      refine zk_getI hX dX11_order_150 flX11_55 k_0 z_0 ?_
      rw [p6, hS]
      refine zk_V3ip hX dX11_order_153 kcX10_orderStops mlX11_379 viX10_orderStops rfl k_147 z_147 co (Nat.le_of_ble_eq_true rfl) rfl (fun x w2 q2 => ?_)
      obtain ⟨k1, k2, k3, U, k4, k5⟩ := q2
      have hF2 : zFr cLs [] [] w w2 := zFr_t hF (zFr_s k1 (by decide))
      have hw2 := zFr_wf hF2 hw
      have h32 : w2.1 147 3 = nI s := (k2 3 (by decide)).trans h3
      refine zk_istore_n (lo' := [_, _, _, _, _]) hX dX11_order_156 (Nat.le_of_ble_eq_true rfl) rfl rfl ?_
      refine zk_iload_n hX dX11_order_157 rfl ?_
      refine zk_bipush (v := -9) hX dX11_order_158 (by decide) ?_
      refine zk_icmp_ne (tgt := 166) hX dX11_order_160 (by decide) (fun c160 => ?_) (fun c160 => ?_)
      · obtain ⟨g1, rfl, Y, g3, g4⟩ : oV s (oB W) U 0 none < 1000000 ∧ x = nI (oV s (oB W) U 0 none) ∧ ∃ Y, oSeq s (oB W) U Y s ∧ ∀ n', n' < s → w2.1 162 n' = nI (oSel a n (Y n')) := k5.resolve_left (fun z => c160 z.2)
        refine zk_aload_n hX dX11_order_166 rfl ?_
        refine zk_getR hX dX11_order_167 flX11_18 k_0 z_0 (hw2 _ _ (by decide) |>.trans r_0_1) ?_
        refine zk_iload_n hX dX11_order_170 rfl ?_
        refine zk_rows hX hw2 dX11_order_171 rfl (by first | assumption | omega) ?_
        refine zk_aload_n hX dX11_order_172 rfl ?_
        refine zk_getR hX dX11_order_173 flX11_90 k_0 z_0 (hw2 _ _ (by decide) |>.trans r_0_14) ?_
        refine zk_getI hX dX11_order_176 flX11_383 k_147 z_147 ?_
        rw [h32]
        refine zk_iconst (v := 0) hX dX11_order_179 (by decide) ?_
        refine zk_V2v hX dX11_order_180 kcX8_renew mlX11_115 viX8_renew rfl (zRwR0 (by first | assumption | omega)) (zRw_r _ (by first | assumption | omega)).2.1 (s_X8_renew (zRwR hr) hw2 (m := s) (by omega) 0) (Nat.le_of_ble_eq_true rfl) rfl ?_
        refine zk_iconst (v := 0) hX dX11_order_183 (by decide) ?_
        refine zk_istore (lo' := [_, _, _, _, _]) hX dX11_order_184 (Nat.le_of_ble_eq_true rfl) rfl rfl ?_
        have hF3 : zFr [4 + 2 * r, 5 + 2 * r] [] [] w2 (zfill (zsi w2 (4 + 2 * r) 0 (nI s)) (4 + 2 * r + 1) s 0) := zFr_t (zFr_i (by simp) (by omega)) (zfill_fr (by simp; omega) (by omega))
        exact show_ U Y w2 hF2 h32 k3 k4 g1 g3 g4 s 0 _ (by omega) hF3 (by rw [zfill_1, if_neg (by omega), zsi_1, if_pos ⟨rfl, rfl⟩]) (fun q hq => absurd hq (by omega))
      · refine zk_bipush (v := -9) hX dX11_order_163 (by decide) ?_
        refine zk_iret hX hE rfl ⟨rfl, rfl⟩ dX11_order_165 ⟨_, rfl, ?_⟩
        rcases k5 with ⟨g1, g2⟩ | ⟨g1, g2, Y, g3, g4⟩
        · exact ⟨k3, U, k4, Or.inl ⟨g1, rfl, hF2⟩⟩
        · exfalso
          rw [g2] at c160
          exact absurd (by first | exact c160 | exact Decidable.not_not.mp c160) (show ¬ nI (oV s (oB W) U 0 none) = -9 from fun z => absurd (nI_pos' (n := oV s (oB W) U 0 none) (by omega)) (by rw [z]; decide))
    · refine zk_aload_n hX dX11_order_137 rfl ?_
      refine zk_getR hX dX11_order_138 flX11_90 k_0 z_0 (p1 _ _ (by decide) |>.trans r_0_14) ?_
      refine zk_aload_n hX dX11_order_141 rfl ?_
      refine zk_getR hX dX11_order_142 flX11_83 k_0 z_0 (p1 _ _ (by decide) |>.trans r_0_13) ?_
      refine zk_aload_n hX dX11_order_145 rfl ?_
      refine zk_getR hX dX11_order_146 flX11_38 k_0 z_0 (p1 _ _ (by decide) |>.trans r_0_4) ?_
      refine zk_aload_n hX dX11_order_149 rfl ?_
      refine zk_getI hX dX11_order_150 flX11_55 k_0 z_0 ?_
      rw [p6, hS]
      refine zk_V3ip hX dX11_order_153 kcX10_orderStops mlX11_379 viX10_orderStops rfl k_147 z_147 co (Nat.le_of_ble_eq_true rfl) rfl (fun x w2 q2 => ?_)
      obtain ⟨k1, k2, k3, U, k4, k5⟩ := q2
      have hF2 : zFr cLs [] [] w w2 := zFr_t hF (zFr_s k1 (by decide))
      have hw2 := zFr_wf hF2 hw
      obtain ⟨g1, rfl⟩ : ¬ oV s (oB W) U 0 none < 1000000 ∧ x = -9 := k5.resolve_right (fun z => q ⟨U, k4, z.1⟩)
      refine zk_istore_n (lo' := [_, _, _, _, _]) hX dX11_order_156 (Nat.le_of_ble_eq_true rfl) rfl rfl ?_
      refine zk_iload_n hX dX11_order_157 rfl ?_
      refine zk_bipush (v := -9) hX dX11_order_158 (by decide) ?_
      refine zk_icmp_ne (tgt := 166) hX dX11_order_160 (by decide) (fun c160 => ?_) (fun c160 => ?_)
      · exact absurd c160 (fun z => z rfl)
      refine zk_bipush (v := -9) hX dX11_order_163 (by decide) ?_
      refine zk_iret hX hE rfl ⟨rfl, rfl⟩ dX11_order_165 ⟨_, rfl, ?_⟩
      exact ⟨k3, U, k4, Or.inl ⟨g1, rfl, hF2⟩⟩
  have loop : ∀ m i w1, i + m = n → zFr cLs [] [] w w1 → w1.1 147 3 = nI (zcnt a.testBit i) → (∀ q, q < zcnt a.testBit i → w1.1 150 q = nI (oSel a i q) ∧ w1.1 151 q = nI (zcd (zsp D) (dd (oSel a i q)) (dJ D))) → zk0 G X mX11_order 101 [.ref 0, .int (nI a), .int (nI r), .int (nI i), .null] [] w1 := by
    intro m
    induction m with
    | zero =>
      intro i w1 hi hF h3 hst
      obtain rfl : i = n := by omega
      rw [es] at h3 hst
      have hw1 := zFr_wf hF hw
      refine zk_iload_n hX dX11_order_101 rfl ?_
      refine zk_aload_n hX dX11_order_102 rfl ?_
      refine zk_getI hX dX11_order_103 flX11_213 k_0 z_0 ?_
      refine zk_icmp_ge (tgt := 137) hX dX11_order_106 (by decide) (fun c106 => ?_) (fun c106 => ?_)
      rotate_left
      · exact absurd (by rw [hF.2.1 0 (by decide) (by decide), hP]; exact nI_le (Nat.le_refl _) (by omega)) c106
      exact fin w1 _ 0 hF h3 hst
    | succ m ih =>
      intro i w1 hi hF h3 hst
      obtain ⟨p1, p2, p3, p4, p5, p6⟩ := pre w1 hF
      have h9 := fun w2 => ih (i + 1) w2 (by omega)
      by_cases q : a.testBit i = true
      · have hb : nI (a >>> i) &&& 1 = 1 := by rw [bit1, if_pos q]
        have hlt : zcnt a.testBit i < s := by
          have h1 : zcnt a.testBit (i + 1) ≤ zcnt a.testBit n := zcnt_up (by omega)
          rw [zcnt_t q] at h1
          omega
        rw [zcnt_t q] at h9
        refine zk_iload_n hX dX11_order_101 rfl ?_
        refine zk_aload_n hX dX11_order_102 rfl ?_
        refine zk_getI hX dX11_order_103 flX11_213 k_0 z_0 ?_
        refine zk_icmp_ge (tgt := 137) hX dX11_order_106 (by decide) (fun c106 => ?_) (fun c106 => ?_)
        · exact absurd c106 (by rw [p6, hP]; exact nI_ge (by omega) (by omega))
        refine zk_iload_n hX dX11_order_109 rfl ?_
        refine zk_iload_n hX dX11_order_110 rfl ?_
        refine zk_ishr hX dX11_order_111 ?_
        rw [nI_shr (by omega) (by omega)]
        refine zk_iconst (v := 1) hX dX11_order_112 (by decide) ?_
        refine zk_iand hX dX11_order_113 ?_
        rw [hb]
        refine zk_iconst (v := 1) hX dX11_order_114 (by decide) ?_
        refine zk_icmp_ne (tgt := 131) hX dX11_order_115 (by decide) (fun c115 => ?_) (fun c115 => ?_)
        · exact absurd c115 (fun z => z rfl)
        refine zk_aload_n hX dX11_order_118 rfl ?_
        refine zk_getR hX dX11_order_119 flX11_90 k_0 z_0 (p1 _ _ (by decide) |>.trans r_0_14) ?_
        refine zk_iload_n hX dX11_order_122 rfl ?_
        refine zk_aload_n hX dX11_order_123 rfl ?_
        refine zk_iload_n hX dX11_order_124 rfl ?_
        refine zk_V1i hX dX11_order_125 kcX11_placeOf mlX11_351 viX11_placeOf rfl k_0 z_0 (s_X11_placeOf p1 hD p2 p4 (by omega) (fun j hj => by rw [p5 i (by omega)]; exact hd i (by omega) j hj)) (Nat.le_of_ble_eq_true rfl) rfl ?_
        refine zk_V2v hX dX11_order_128 kcX10_addStop mlX11_376 viX10_addStop rfl k_147 z_147 (s_X10_addStop p1 (show zcnt a.testBit i < 8 by omega) h3 _ _) (Nat.le_of_ble_eq_true rfl) rfl ?_
        refine zk_iinc (lo' := [_, _, _, _, _]) hX dX11_order_131 rfl (by first | exact zinc _ | exact rfl) (Nat.le_of_ble_eq_true rfl) rfl rfl ?_
        refine zk_goto (tgt := 101) hX dX11_order_134 (by decide) ?_
        have hF3 : zFr [147, 150, 151] [] [] w1 (zadds w1 (zcnt a.testBit i) (nI i) (nI (zcd (zsp D) (dd i) (dJ D)))) := zFr_t (zFr_t (zFr_i (by decide) (by decide)) (zFr_i (by decide) (by decide))) (zFr_i (by decide) (by decide))
        refine h9 _ (zFr_t hF (zFr_s hF3 (by decide))) ?_ (fun y hy => ?_)
        · unfold zadds
          rw [zsi_1, if_pos ⟨rfl, rfl⟩]
        · have f0 : (zadds w1 (zcnt a.testBit i) (nI i) (nI (zcd (zsp D) (dd i) (dJ D)))).1 150 y = if y = zcnt a.testBit i then nI i else w1.1 150 y := by
            unfold zadds
            rw [zsi_o (by decide), zsi_o (by decide), zsi_1]
            simp
          have f1 : (zadds w1 (zcnt a.testBit i) (nI i) (nI (zcd (zsp D) (dd i) (dJ D)))).1 151 y = if y = zcnt a.testBit i then nI (zcd (zsp D) (dd i) (dJ D)) else w1.1 151 y := by
            unfold zadds
            rw [zsi_o (by decide), zsi_1, zsi_o (by decide)]
            simp
          rw [f0, f1, oSel_t q]
          by_cases e : y = zcnt a.testBit i
          · rw [if_pos e, if_pos e, if_pos e]
            exact ⟨rfl, rfl⟩
          · rw [if_neg e, if_neg e, if_neg e]
            exact hst y (by omega)
      · have hb : nI (a >>> i) &&& 1 = 0 := by rw [bit1, if_neg q]
        rw [zcnt_f q] at h9
        refine zk_iload_n hX dX11_order_101 rfl ?_
        refine zk_aload_n hX dX11_order_102 rfl ?_
        refine zk_getI hX dX11_order_103 flX11_213 k_0 z_0 ?_
        refine zk_icmp_ge (tgt := 137) hX dX11_order_106 (by decide) (fun c106 => ?_) (fun c106 => ?_)
        · exact absurd c106 (by rw [p6, hP]; exact nI_ge (by omega) (by omega))
        refine zk_iload_n hX dX11_order_109 rfl ?_
        refine zk_iload_n hX dX11_order_110 rfl ?_
        refine zk_ishr hX dX11_order_111 ?_
        rw [nI_shr (by omega) (by omega)]
        refine zk_iconst (v := 1) hX dX11_order_112 (by decide) ?_
        refine zk_iand hX dX11_order_113 ?_
        rw [hb]
        refine zk_iconst (v := 1) hX dX11_order_114 (by decide) ?_
        refine zk_icmp_ne (tgt := 131) hX dX11_order_115 (by decide) (fun c115 => ?_) (fun c115 => ?_)
        rotate_left
        · exact absurd c115 (by decide)
        refine zk_iinc (lo' := [_, _, _, _, _]) hX dX11_order_131 rfl (by first | exact zinc _ | exact rfl) (Nat.le_of_ble_eq_true rfl) rfl rfl ?_
        refine zk_goto (tgt := 101) hX dX11_order_134 (by decide) ?_
        refine h9 w1 hF h3 (fun y hy => ?_)
        rw [oSel_f q]
        exact hst y hy
  refine s_X11_order_held hX hw hn hP ha2 ha1 (by rw [es]; exact h8) hr (fun _ i => ?_) (fun q => absurd hh q)
  refine zk_aload_n hX dX11_order_79 rfl ?_
  refine zk_getR hX dX11_order_80 flX11_83 k_0 z_0 (hw _ _ (by decide) |>.trans r_0_13) ?_
  refine zk_getI hX dX11_order_83 flX11_302 k_131 z_131 ?_
  rw [hs]
  refine zk_if_eq (tgt := 92) hX dX11_order_86 (by decide) (fun c86 => ?_) (fun c86 => ?_)
  rotate_left
  · exact absurd rfl c86
  refine zk_aload_n hX dX11_order_92 rfl ?_
  refine zk_getR hX dX11_order_93 flX11_90 k_0 z_0 (hw _ _ (by decide) |>.trans r_0_14) ?_
  refine zk_V0v hX dX11_order_96 kcX10_beginOrder mlX11_373 viX10_beginOrder rfl k_147 z_147 s_X10_beginOrder (Nat.le_of_ble_eq_true rfl) rfl ?_
  refine zk_iconst (v := 0) hX dX11_order_99 (by decide) ?_
  refine zk_istore_n (lo' := [_, _, _, _, _]) hX dX11_order_100 (Nat.le_of_ble_eq_true rfl) rfl rfl ?_
  exact loop n 0 _ (by omega) (zFr_i (by decide) (by decide)) (by rw [zsi_1, if_pos ⟨rfl, rfl⟩]; rfl) (fun q hq => absurd hq (by show ¬ q < 0; omega))
