/-! order: the model's call, whole -/
def mLs : List Nat := [179, 180, 181, 194, 195, 196, 197, 198, 199]
theorem wayW {D : zD} (hD : zDok D) {T : Nat} {c : Nat → Nat} {i k : Nat} {r : Int32} {W : Option Nat} (hp : c i < zpr (zsp D) (dJ D)) (hq : c k < zpr (zsp D) (dJ D)) (hW : oWd (zadj (zsp D) (dJ D)) (rH D (-1) T) c i k W)
    (h : (¬ (zkd D (zcode_t D (c i)) (-1) T = 1 ∧ zkd D (zcode_t D (c k)) (-1) T = 1) ∧ r = -9) ∨ ((zkd D (zcode_t D (c i)) (-1) T = 1 ∧ zkd D (zcode_t D (c k)) (-1) T = 1) ∧ ∃ res, r = zoe res ∧ zDs (zadj (zsp D) (dJ D)) (fun v => mQ D (-1) T v || decide (v = c k)) (c i) (c k) res)) : r = zoe W := by
  have e1 : rH D (-1) T (c i) = true ↔ zkd D (zcode_t D (c i)) (-1) T = 1 := by rw [rH_code hD hp, mQ_t]
  have e2 : rH D (-1) T (c k) = true ↔ zkd D (zcode_t D (c k)) (-1) T = 1 := by rw [rH_code hD hq, mQ_t]
  rcases h with ⟨h1, rfl⟩ | ⟨h1, res, rfl, h2⟩
  · have : W = none := oWd_u hW (Or.inr ⟨fun z => h1 ⟨e1.mp z.1, e2.mp z.2⟩, rfl⟩)
    rw [this]
    rfl
  · have h3 : zDs (zadj (zsp D) (dJ D)) (rH D (-1) T) (c i) (c k) res := zDs_b (N := zpr (zsp D) (dJ D)) (fun a b ha hb => zadj_lt (fun j hj => (zsp_b hD hj).1) ha hb) hp (fun v hv => by
      rw [rH_code hD hv]
      by_cases e : v = c k
      · rw [e, mQ_t.mpr h1.2]
        rfl
      · simp [e]) h2
    have : W = res := oWd_u hW (Or.inl ⟨e1.mpr h1.1, e2.mpr h1.2, h3⟩)
    rw [this]
theorem s_X12_order {G : zG} {w : zW} {D : zD} {n a r T : Nat} {dd : Nat → Nat → Nat} {W : Nat → Nat → Option Nat} {U : Nat → Nat → Nat} (hw : zWf w) (hM : mHd w D) (hD : zDok D) (hN : zpr (zsp D) (dJ D) ≤ 4096) (hT9 : T ≤ 99) (hS : w.1 166 24 = nI T) (hn : n ≤ 12) (hP : w.1 166 33 = nI n) (ha2 : a < 2 ^ n) (ha1 : 1 ≤ a) (h8 : zcnt a.testBit n ≤ 8) (hr : r < 6) (hh : oHeld a (mHk w) n = true)
    (hdl : ∀ p, p < n → ∀ j, j < dJ D → dd p j < zsp D j) (hd : ∀ p, p < n → ∀ j, j < dJ D → w.1 184 (6 * p + j) = ztv D (dd p) j)
    (hW : ∀ i k, oWd (zadj (zsp D) (dJ D)) (rH D (-1) T) (fun i => zcd (zsp D) (dd (oSel a n i)) (dJ D)) i k (W i k)) (hWm : ∀ i k, i < zcnt a.testBit n → k < zcnt a.testBit n → ∀ m, W i k = some m → m < 4096) (hR : oRec (zcnt a.testBit n) (oB W) U 0) (hXs : oV (zcnt a.testBit n) (oB W) U 0 none < 1000000 → ∃ X, oSeq (zcnt a.testBit n) (oB W) U X (zcnt a.testBit n)) :
    zCi G mX12_order [.ref 166, .int (nI a), .int (nI r)] w (fun b w' => (¬ oV (zcnt a.testBit n) (oB W) U 0 none < 1000000 ∧ b = -9 ∧ zFr mLs [] [29, 49] w w') ∨ (oV (zcnt a.testBit n) (oB W) U 0 none < 1000000 ∧ b = nI (oV (zcnt a.testBit n) (oB W) U 0 none) ∧ ∃ w1, zFr mLs [] [29, 49] w w1 ∧ ∀ X, oSeq (zcnt a.testBit n) (oB W) U X (zcnt a.testBit n) → mRowW w1 r (zcnt a.testBit n) (fun i => nI (oSel a n (X i))) w')) := by
  have hcd : ∀ p, p < n → zcd (zsp D) (dd p) (dJ D) < zpr (zsp D) (dJ D) := fun p hp => zcd_lt (hdl p hp)
  generalize es : zcnt a.testBit n = s at *
  have hsel : ∀ i, i < s → oSel a n i < n := fun i hi => (oSel_ok (by omega)).1
  refine zC_of (lo := [_, _, _, _, _, _]) kcX12_order (Nat.le_of_ble_eq_true rfl) rfl (fun X hX hE => ?_)
  refine s_X12_order_held hX hw hn hP ha2 ha1 (by rw [es]; exact h8) hr (fun w1 i0 hF h49 hst => ?_)
  rw [es] at h49 hst
  have hw1 := zFr_wf hF hw
  have hM1 := mHd_f hM hF (by decide)
  have pre : ∀ w2, zFr mLs [] [29, 49] w w2 → zWf w2 ∧ mHd w2 D ∧ w2.1 166 24 = nI T ∧ w2.1 184 = w.1 184 := fun w2 hF => ⟨zFr_wf hF hw, mHd_f hM hF (by decide), by rw [hF.2.2.2 24 (by decide)]; exact hS, hF.2.1 184 (by decide) (by decide)⟩
  have hFb : zFr mLs [] [29, 49] w w1 := zFr_s hF (by decide)
  have fin : ∀ w2 (i4 : Int32) (i5 : Value), zFr mLs [] [29, 49] w w2 → w2.1 166 49 = nI s → (∀ q, q < s → w2.1 197 q = nI (oSel a n q)) → (∀ i k, i < s → k < s → w2.1 198 (8 * i + k) = zoe (W i k)) → zk0 G X mX12_order 213 [.ref 166, .int (nI a), .int (nI r), .int (zb (oHeld a (mHk w) n = true)), .int i4, i5] [] w2 := by
    intro w2 i4 i5 hF2 h2 hs2 hW2
    have hw2 := zFr_wf hF2 hw
    refine zk_aload_n hX dX12_order_213 rfl ?_
    refine zk_V0vp hX dX12_order_214 kcX12_layToCome mlX12_375 viX12_layToCome rfl k_166 z_166 (s_X12_layToCome hw2 h8 h2 (fun i k hi hk => ⟨hW2 i k hi hk, hWm i k hi hk⟩)) (Nat.le_of_ble_eq_true rfl) rfl (fun w3 q3 => ?_)
    obtain ⟨k1, V, k2, k3⟩ := q3
    have hF3 : zFr mLs [] [29, 49] w w3 := zFr_t hF2 (zFr_s k1 (by decide))
    have hw3 := zFr_wf hF3 hw
    refine zk_aload_n hX dX12_order_217 rfl ?_
    refine zk_iload_n hX dX12_order_218 rfl ?_
    refine zk_V1ip hX dX12_order_219 kcX12_orderTold mlX12_378 viX12_orderTold rfl k_166 z_166 (s_X12_orderTold (st := oSel a n) hw3 hr h8 (by rw [k1.2.2.2 49 (by decide)]; exact h2) hW (fun i k hi hk => ⟨by rw [k1.2.1 198 (by decide) (by decide)]; exact hW2 i k hi hk, hWm i k hi hk⟩) hR k2 k3 (fun i hi => by rw [k1.2.1 197 (by decide) (by decide)]; exact hs2 i hi) hXs) (Nat.le_of_ble_eq_true rfl) rfl (fun r4 w4 q4 => ?_)
    refine zk_iret hX hE rfl ⟨rfl, rfl⟩ dX12_order_222 ⟨_, rfl, ?_⟩
    rcases q4 with ⟨g1, g2, g3⟩ | ⟨g1, g2, g3⟩
    · exact Or.inl ⟨g1, g2, by rw [g3]; exact hF3⟩
    · exact Or.inr ⟨g1, g2, w3, hF3, g3⟩
  have e196 : ∀ w2 : zW, (∀ i, i < zpr (zsp D) (dJ D) → w2.1 196 i = zb (zkd D (zcode_t D i) (-1) T = 1)) → ∀ i, i < zpr (zsp D) (dJ D) → w2.1 196 i = zb (mQ D (-1) T i = true) := fun w2 h i hi => by rw [h i hi]; exact zb_c mQ_t.symm
  have inner : ∀ i, i < s → (∀ w2 (i5 : Value), zFr mLs [] [29, 49] w w2 → w2.1 166 49 = nI s → (∀ q, q < s → w2.1 197 q = nI (oSel a n q)) → (∀ q, q < zpr (zsp D) (dJ D) → w2.1 196 q = zb (zkd D (zcode_t D q) (-1) T = 1)) → (∀ i' k, i' < s → k < s → i' < i + 1 → w2.1 198 (8 * i' + k) = zoe (W i' k)) → zk0 G X mX12_order 207 [.ref 166, .int (nI a), .int (nI r), .int (zb (oHeld a (mHk w) n = true)), .int (nI i), i5] [] w2) →
      ∀ m k w2, k + m = s → zFr mLs [] [29, 49] w w2 → w2.1 166 49 = nI s → (∀ q, q < s → w2.1 197 q = nI (oSel a n q)) → (∀ q, q < zpr (zsp D) (dJ D) → w2.1 196 q = zb (zkd D (zcode_t D q) (-1) T = 1)) → (∀ i' k', i' < s → k' < s → (i' < i ∨ (i' = i ∧ k' < k)) → w2.1 198 (8 * i' + k') = zoe (W i' k')) → zk0 G X mX12_order 153 [.ref 166, .int (nI a), .int (nI r), .int (zb (oHeld a (mHk w) n = true)), .int (nI i), .int (nI k)] [] w2 := by
    intro i hi kk m
    induction m with
    | zero =>
      intro k w2 hk hF2 h2 hs2 h6 hW2
      obtain rfl : s = k := by omega
      have hw2 := zFr_wf hF2 hw
      refine zk_iload hX dX12_order_153 rfl ?_
      refine zk_aload_n hX dX12_order_155 rfl ?_
      refine zk_getI hX dX12_order_156 flX12_368 k_166 z_166 ?_
      refine zk_icmp_ge (tgt := 207) hX dX12_order_159 (by decide) (fun c159 => ?_) (fun c159 => ?_)
      rotate_left
      · exact absurd (by rw [h2]; exact nI_le (Nat.le_refl _) (by omega)) c159
      exact kk w2 _ hF2 h2 hs2 h6 (fun i' k' h1 h3 h4 => hW2 i' k' h1 h3 (by omega))
    | succ m ih =>
      intro k w2 hk hF2 h2 hs2 h6 hW2
      have hks : k < s := by omega
      obtain ⟨p1, p2, p3, p4⟩ := pre w2 hF2
      have ci := hcd _ (hsel i hi)
      have ck := hcd _ (hsel k hks)
      have si8 := hsel i hi
      have sk8 := hsel k hks
      refine zk_iload hX dX12_order_153 rfl ?_
      refine zk_aload_n hX dX12_order_155 rfl ?_
      refine zk_getI hX dX12_order_156 flX12_368 k_166 z_166 ?_
      refine zk_icmp_ge (tgt := 207) hX dX12_order_159 (by decide) (fun c159 => ?_) (fun c159 => ?_)
      · exact absurd c159 (by rw [h2]; exact nI_ge (by omega) (by omega))
      refine zk_aload_n hX dX12_order_162 rfl ?_
      refine zk_getR hX dX12_order_163 flX12_105 k_166 z_166 (p1 _ _ (by decide) |>.trans r_166_51) ?_
      refine zk_bipush (v := 8) hX dX12_order_166 (by decide) ?_
      refine zk_iload hX dX12_order_168 rfl ?_
      refine zk_imul hX dX12_order_170 ?_
      refine zk_iload hX dX12_order_171 rfl ?_
      refine zk_iadd hX dX12_order_173 ?_
      refine zk_aload_n hX dX12_order_174 rfl ?_
      refine zk_aload_n hX dX12_order_175 rfl ?_
      refine zk_aload_n hX dX12_order_176 rfl ?_
      refine zk_getR hX dX12_order_177 flX12_102 k_166 z_166 (p1 _ _ (by decide) |>.trans r_166_50) ?_
      refine zk_iload hX dX12_order_180 rfl ?_
      refine zk_ialdE hX dX12_order_182 rfl k_197 z_197 (by first | assumption | omega) rfl ?_
      rw [hs2 i hi]
      refine zk_V1ip hX dX12_order_183 kcX12_codeOf mlX12_362 viX12_codeOf rfl k_166 z_166 (s_X12_codeOf p1 p2 hD (show oSel a n i < 12 by omega) (hdl _ si8) (fun j hj => by rw [p4]; exact hd _ si8 j hj)) (Nat.le_of_ble_eq_true rfl) rfl (fun r3 w3 q3 => ?_)
      obtain ⟨rfl, k1⟩ := q3
      have hF3 : zFr mLs [] [29, 49] w w3 := zFr_t hF2 (zFr_s k1 (by decide))
      obtain ⟨b1, b2, b3, b4⟩ := pre w3 hF3
      refine zk_aload_n hX dX12_order_186 rfl ?_
      refine zk_aload_n hX dX12_order_187 rfl ?_
      refine zk_getR hX dX12_order_188 flX12_102 k_166 z_166 (b1 _ _ (by decide) |>.trans r_166_50) ?_
      refine zk_iload hX dX12_order_191 rfl ?_
      refine zk_ialdE hX dX12_order_193 rfl k_197 z_197 (by first | assumption | omega) rfl ?_
      rw [k1.2.1 197 (by decide) (by decide), hs2 k hks]
      refine zk_V1ip hX dX12_order_194 kcX12_codeOf mlX12_362 viX12_codeOf rfl k_166 z_166 (s_X12_codeOf b1 b2 hD (show oSel a n k < 12 by omega) (hdl _ sk8) (fun j hj => by rw [b4]; exact hd _ sk8 j hj)) (Nat.le_of_ble_eq_true rfl) rfl (fun r4 w4 q4 => ?_)
      obtain ⟨rfl, k2⟩ := q4
      have hF4 : zFr mLs [] [29, 49] w w4 := zFr_t hF3 (zFr_s k2 (by decide))
      obtain ⟨d1, d2, d3, d4⟩ := pre w4 hF4
      refine zk_V2ip hX dX12_order_197 kcX12_wayBetween mlX12_365 viX12_wayBetween rfl k_166 z_166 (s_X12_wayBetween (T := T) (P := mQ D (-1) T) d1 d2 hD d3 hT9 hN (e196 w4 (fun q hq => by rw [k2.2.1 196 (by decide) (by decide), k1.2.1 196 (by decide) (by decide)]; exact h6 q hq)) ci ck) (Nat.le_of_ble_eq_true rfl) rfl (fun r5 w5 q5 => ?_)
      obtain ⟨k3, k4⟩ := q5
      have hF5 : zFr mLs [] [29, 49] w w5 := zFr_t hF4 (zFr_s k3 (by decide))
      have e5 : r5 = zoe (W i k) := wayW hD (c := fun i => zcd (zsp D) (dd (oSel a n i)) (dJ D)) ci ck (hW i k) k4
      rw [e5]
      refine zk_iastE hX dX12_order_200 (nI_addE (nI_mulE (nI_k 8 rfl) rfl) rfl) k_198 z_198 (by first | assumption | omega) rfl ?_
      refine zk_iinc (lo' := [_, _, _, _, _, _]) hX dX12_order_201 rfl (by first | exact zinc _ | exact rfl) (Nat.le_of_ble_eq_true rfl) rfl rfl ?_
      refine zk_goto (tgt := 153) hX dX12_order_204 (by decide) ?_
      have hFx : zFr [179, 180, 181, 194, 195] [] [29] w2 w5 := zFr_t (zFr_s k1 (by decide)) (zFr_t (zFr_s k2 (by decide)) (zFr_s k3 (by decide)))
      refine ih (k + 1) _ (by omega) (zFr_t hF5 (zFr_i (by decide) (by decide))) (by rw [zsi_o (by decide), hFx.2.2.2 49 (by decide)]; exact h2) (fun q hq => by rw [zsi_o (by decide), hFx.2.1 197 (by decide) (by decide)]; exact hs2 q hq) (fun q hq => by rw [zsi_o (by decide), hFx.2.1 196 (by decide) (by decide)]; exact h6 q hq) (fun i' k' h1 h3 h4 => ?_)
      rw [zsi_1]
      by_cases e : i' = i ∧ k' = k
      · rw [if_pos ⟨rfl, by rw [e.1, e.2]⟩, e.1, e.2]
      · rw [if_neg (by omega), hFx.2.1 198 (by decide) (by decide)]
        exact hW2 i' k' h1 h3 (by omega)
  have outer : ∀ m i w2 (i5 : Value), i + m = s → zFr mLs [] [29, 49] w w2 → w2.1 166 49 = nI s → (∀ q, q < s → w2.1 197 q = nI (oSel a n q)) → (∀ q, q < zpr (zsp D) (dJ D) → w2.1 196 q = zb (zkd D (zcode_t D q) (-1) T = 1)) → (∀ i' k, i' < s → k < s → i' < i → w2.1 198 (8 * i' + k) = zoe (W i' k)) → zk0 G X mX12_order 141 [.ref 166, .int (nI a), .int (nI r), .int (zb (oHeld a (mHk w) n = true)), .int (nI i), i5] [] w2 := by
    intro m
    induction m with
    | zero =>
      intro i w2 i5 hi hF2 h2 hs2 h6 hW2
      obtain rfl : s = i := by omega
      have hw2 := zFr_wf hF2 hw
      refine zk_iload hX dX12_order_141 rfl ?_
      refine zk_aload_n hX dX12_order_143 rfl ?_
      refine zk_getI hX dX12_order_144 flX12_368 k_166 z_166 ?_
      refine zk_icmp_ge (tgt := 213) hX dX12_order_147 (by decide) (fun c147 => ?_) (fun c147 => ?_)
      rotate_left
      · exact absurd (by rw [h2]; exact nI_le (Nat.le_refl _) (by omega)) c147
      exact fin w2 _ _ hF2 h2 hs2 (fun i' k h1 h3 => hW2 i' k h1 h3 h1)
    | succ m ih =>
      intro i w2 i5 hi hF2 h2 hs2 h6 hW2
      have hw2 := zFr_wf hF2 hw
      have nx : ∀ w2 (i5 : Value), zFr mLs [] [29, 49] w w2 → w2.1 166 49 = nI s → (∀ q, q < s → w2.1 197 q = nI (oSel a n q)) → (∀ q, q < zpr (zsp D) (dJ D) → w2.1 196 q = zb (zkd D (zcode_t D q) (-1) T = 1)) → (∀ i' k, i' < s → k < s → i' < i + 1 → w2.1 198 (8 * i' + k) = zoe (W i' k)) → zk0 G X mX12_order 207 [.ref 166, .int (nI a), .int (nI r), .int (zb (oHeld a (mHk w) n = true)), .int (nI i), i5] [] w2 := by
        intro w3 i5 g1 g2 g3 g4 g5
        refine zk_iinc (lo' := [_, _, _, _, _, _]) hX dX12_order_207 rfl (by first | exact zinc _ | exact rfl) (Nat.le_of_ble_eq_true rfl) rfl rfl ?_
        refine zk_goto (tgt := 141) hX dX12_order_210 (by decide) ?_
        exact ih (i + 1) w3 _ (by omega) g1 g2 g3 g4 g5
      refine zk_iload hX dX12_order_141 rfl ?_
      refine zk_aload_n hX dX12_order_143 rfl ?_
      refine zk_getI hX dX12_order_144 flX12_368 k_166 z_166 ?_
      refine zk_icmp_ge (tgt := 213) hX dX12_order_147 (by decide) (fun c147 => ?_) (fun c147 => ?_)
      · exact absurd c147 (by rw [h2]; exact nI_ge (by omega) (by omega))
      refine zk_iconst (v := 0) hX dX12_order_150 (by decide) ?_
      refine zk_istore (lo' := [_, _, _, _, _, _]) hX dX12_order_151 (Nat.le_of_ble_eq_true rfl) rfl rfl ?_
      exact inner i (by omega) nx s 0 w2 (by omega) hF2 h2 hs2 h6 (fun i' k' h1 h3 h4 => hW2 i' k' h1 h3 (by omega))
  refine zk_iload_n hX dX12_order_108 rfl ?_
  refine zk_if_neB (tgt := 118) hX dX12_order_109 (by decide) (fun c109 => ?_) (fun c109 => ?_)
  rotate_left
  · exact absurd hh c109
  refine zk_aload_n hX dX12_order_118 rfl ?_
  refine zk_V0i hX dX12_order_119 kcX12_turnsMany mlX12_329 viX12_turnsMany rfl k_166 z_166 (s_X12_turnsMany hw1 hM1 hD) (Nat.le_of_ble_eq_true rfl) rfl ?_
  refine zk_sipush (v := 4096) hX dX12_order_122 (by decide) ?_
  refine zk_icmp_le (tgt := 131) hX dX12_order_125 (by decide) (fun c125 => ?_) (fun c125 => ?_)
  rotate_left
  · exact absurd (nI_le (b := 4096) hN (by decide)) c125
  refine zk_aload_n hX dX12_order_131 rfl ?_
  refine zk_bipush (v := -9) hX dX12_order_132 (by decide) ?_
  refine zk_iconst (v := 0) hX dX12_order_134 (by decide) ?_
  refine zk_V2vp hX dX12_order_135 kcX12_layOpen mlX12_359 viX12_layOpen rfl k_166 z_166 (s_X12_layOpen_n _ hw1 hM1 hD (by rw [hF.2.2.2 24 (by decide)]; exact hS) hT9 hN) (Nat.le_of_ble_eq_true rfl) rfl (fun w2 q2 => ?_)
  obtain ⟨k1, k2⟩ := q2
  refine zk_iconst (v := 0) hX dX12_order_138 (by decide) ?_
  refine zk_istore (lo' := [_, _, _, _, _, _]) hX dX12_order_139 (Nat.le_of_ble_eq_true rfl) rfl rfl ?_
  refine outer s 0 w2 _ (by omega) (zFr_t hFb (zFr_s k1 (by decide))) (by rw [k1.2.2.2 49 (by decide)]; exact h49) (fun q hq => by rw [k1.2.1 197 (by decide) (by decide)]; exact hst q hq) k2 (fun i' k h1 h3 h4 => absurd h4 (by omega))
