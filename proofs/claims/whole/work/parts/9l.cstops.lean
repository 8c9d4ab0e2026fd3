/-! order: the class's ways, and its table filled -/
theorem wk_far {w : zW} {E : Nat → Nat → Prop} {O : Nat → Bool} {c : Nat → Nat} {N a b : Nat} (hN : N ≤ 4096) (h : cWk w E O (c a) N (-9)) (hb : c b < N) : ∃ r, oWd E O c a b r ∧ (∀ m, r = some m → m < 4096) ∧ ((r = none ∧ w.1 148 (c b) < 0) ∨ ∃ m, r = some m ∧ w.1 148 (c b) = nI m) := by
  rcases h with ⟨h1, h2⟩ | ⟨h1, F, Q, n, hh, b1, b2, b3⟩
  · refine ⟨none, Or.inr ⟨fun q => ?_, rfl⟩, fun m q => (by cases q), Or.inl ⟨rfl, ?_⟩⟩
    · rw [h1] at q
      exact absurd q.1 (by decide)
    · rw [h2 (c b) (by omega)]
      split <;> decide
  · have hn : hh = n := by
      rcases b3 with q | ⟨b', e1, e2, _⟩
      · exact q
      · exact absurd e1.symm (nI_n9 (by omega))
    have hd := zBI_far b1 (v := c b) (Or.inl hn)
    have hm : ∀ m, F (c b) = some m → m < 4096 := fun m e => by
      have hm := (b1.2.2.2.2.1 (c b) m e).2
      have hn : n ≤ 4096 := by rw [b1.1.1]; exact Nat.le_trans (zcnt_le _ _) hN
      omega
    have e0 := b2.1 (c b) (by omega)
    by_cases q : O (c b) = true
    · refine ⟨F (c b), Or.inl ⟨h1, q, hd⟩, hm, ?_⟩
      rcases ffar_r (F := F) (O := O) (v := c b) (fun m e => by have := hm m e; omega) with ⟨e1, e2⟩ | ⟨m, e1, e2, e3⟩
      · exact Or.inl ⟨e2, by rw [e0]; exact e1⟩
      · exact Or.inr ⟨m, e1, e0.trans e2⟩
    · have hne : c b ≠ c a := fun z => q (by rw [z]; exact h1)
      have hF : F (c b) = none := zDs_no (Bool.eq_false_iff.mpr q) hne hd
      refine ⟨none, Or.inr ⟨fun z => q z.2, rfl⟩, fun m z => (by cases z), Or.inl ⟨rfl, ?_⟩⟩
      rw [e0]
      rcases ffar_r (F := F) (O := O) (v := c b) (fun m e => by have := hm m e; omega) with ⟨e1, e2⟩ | ⟨m, e1, e2, e3⟩
      · exact e1
      · rw [hF] at e1
        cases e1
theorem s_X10_orderStops {G : zG} {w : zW} {D : zD} {s T : Nat} {c st : Nat → Nat} {W : Nat → Nat → Option Nat} (hw : zWf w) (hD : zDok D) (hH : cHd w 26 D) (hSt : cStep w D) (hN : zpr (zsp D) (dJ D) ≤ 4096) (hT : cTab w D (-1)) (hT9 : T ≤ 99) (hs8 : s ≤ 8) (hs : w.1 147 3 = nI s) (hc : ∀ i, i < s → w.1 151 i = nI (c i) ∧ c i < zpr (zsp D) (dJ D)) (hst : ∀ i, i < s → w.1 150 i = nI (st i)) (hW : ∀ i k, oWd (zadj (zsp D) (dJ D)) (rH D (-1) T) c i k (W i k)) :
    zCi G mX10_orderStops [.ref 147, .ref 131, .ref 26, .int (nI T)] w (fun r w' => zFr [147, 148, 149, 153, 154, 155, 156, 157, 158, 159, 160, 161, 162] [] [] w w' ∧ (∀ i, i ≠ 2 → w'.1 147 i = w.1 147 i) ∧ (∀ i k, i < s → k < s → ∀ m, W i k = some m → m < 4096) ∧ ∃ U, oRec s (oB W) U 0 ∧ ((¬ oV s (oB W) U 0 none < 1000000 ∧ r = -9) ∨ (oV s (oB W) U 0 none < 1000000 ∧ r = nI (oV s (oB W) U 0 none) ∧ ∃ X, oSeq s (oB W) U X s ∧ ∀ n, n < s → w'.1 162 n = nI (st (X n))))) := by
  have hs9 := oAll_8 hs8
  have hpos : ∀ j, j < dJ D → 0 < zsp D j := fun j hj => (zsp_b hD hj).1
  have hsy : ∀ i k, W i k = W k i := fun i k => oWd_u (hW i k) (oWd_s (fun u v z => zadj_sym hpos z) (hW k i))
  have hsB : ∀ i k, oB W i k = oB W k i := fun i k => by unfold oB; rw [hsy i k]
  have hON : ∀ v, rH D (-1) T v = true → v < zpr (zsp D) (dJ D) := fun v hv => by
    have := (of_decide_eq_true hv).1
    rw [zN_code hD] at this
    exact this
  have eL : (1000000 : Int32) = nI 1000000 := rfl
  have pre : ∀ w1, zFr [147, 148, 149, 153, 154, 155, 156, 157, 158, 159, 160, 161, 162] [] [] w w1 → zWf w1 ∧ cHd w1 26 D ∧ cTab w1 D (-1) ∧ cStep w1 D ∧ w1.1 151 = w.1 151 ∧ w1.1 150 = w.1 150 := fun w1 hF => ⟨zFr_wf hF hw, cHd_o hH (fun a h1 h2 => hF.2.1 a (by simp; omega) (by omega)), cTab_f hT hF (by decide), fun j hj => by rw [hF.2.1 132 (by decide) (by decide), hF.2.1 133 (by decide) (by decide)]; exact hSt j hj, hF.2.1 151 (by decide) (by decide), hF.2.1 150 (by decide) (by decide)⟩
  refine zC_of (lo := [_, _, _, _, _, _, _]) kcX10_orderStops (Nat.le_of_ble_eq_true rfl) rfl (fun X hX hE => ?_)
  -- the end: the table is full
  have fin : ∀ w1 U (a5 a6 : Value), zFr [147, 148, 149, 153, 154, 155, 156, 157, 158, 159, 160, 161, 162] [] [] w w1 → (∀ i, i ≠ 2 → w1.1 147 i = w.1 147 i) → (∀ i k, i < s → k < s → w1.1 (153 + i) k = nI (oB W i k) ∧ ∀ m, W i k = some m → m < 4096) → oRec s (oB W) U 0 → (∀ d, 0 < d → d ≤ oAll s → ∀ l, l < s → w1.1 161 (d * 8 + l) = nI (U d l)) → zk0 G X mX10_orderStops 202 [.ref 147, .ref 131, .ref 26, .int (nI T), .int (nI (oAll s)), a5, a6] [] w1 := by
    intro w1 U a5 a6 hF h4 hBt hR hC
    have hw1 := zFr_wf hF hw
    have hs1 : w1.1 147 3 = nI s := (h4 3 (by decide)).trans hs
    have hB : ∀ i k, i < s → k < s → oB W i k ≤ 1000000 := fun i k hi hk => by
      unfold oB
      cases e : W i k with
      | none => exact Nat.le_refl _
      | some m =>
        have := (hBt i k hi hk).2 m e
        show m ≤ 1000000
        omega
    have h0H : oHas w1 s (oB W) U 0 none := by
      refine ⟨fun l hl => (by cases hl), fun x hx hb => hC _ (by have := oAdd_gt hb; omega) (oAdd_le (Nat.zero_le _) hx) x hx, fun x hx hb => ?_⟩
      have := oRec_le hR hB (d := 0 ||| 1 <<< x) (by have := oAdd_gt hb; omega) (oAdd_le (Nat.zero_le _) hx) hx
      show 0 + U (0 ||| 1 <<< x) x < 3000000
      omega
    have cl := s_X10_leastRest (G := G) hw1 hs8 hs1 (by decide) h0H
    have hV := oMin_le (oP 0) (oG (oB W) U 0 none) s
    rw [show oMin (oP 0) (oG (oB W) U 0 none) s = oV s (oB W) U 0 none from rfl] at hV
    by_cases q : oV s (oB W) U 0 none < 1000000
    · have cp := s_X10_putInOrder (G := G) (st := st) hw1 hs8 hs1 hR hB (fun i k hi hk => (hBt i k hi hk).1) hC q (fun i hi => by rw [(pre w1 hF).2.2.2.2.2]; exact hst i hi)
      refine zk_aload_n hX dX10_orderStops_202 rfl ?_
      refine zk_iconst (v := 0) hX dX10_orderStops_203 (by decide) ?_
      refine zk_bipush (v := -9) hX dX10_orderStops_204 (by decide) ?_
      refine zk_V2i hX dX10_orderStops_206 kcX10_leastRest mlX10_80 viX10_leastRest rfl k_147 z_147 cl (Nat.le_of_ble_eq_true rfl) rfl ?_
      refine zk_istore (lo' := [_, _, _, _, _, _, _]) hX dX10_orderStops_209 (Nat.le_of_ble_eq_true rfl) rfl rfl ?_
      refine zk_iload hX dX10_orderStops_211 rfl ?_
      refine zk_ldc hX dX10_orderStops_213 cnX10_79 ?_
      rw [eL]
      refine zk_icmp_lt (tgt := 221) hX dX10_orderStops_215 (by decide) (fun c215 => ?_) (fun c215 => ?_)
      rotate_left
      · exact absurd (nI_lt q (by decide)) c215
      refine zk_aload_n hX dX10_orderStops_221 rfl ?_
      refine zk_V0vp hX dX10_orderStops_222 kcX10_putInOrder mlX10_84 viX10_putInOrder rfl k_147 z_147 cp (Nat.le_of_ble_eq_true rfl) rfl (fun w2 q2 => ?_)
      obtain ⟨k1, k2⟩ := q2
      refine zk_iload hX dX10_orderStops_225 rfl ?_
      refine zk_iret hX hE rfl ⟨rfl, rfl⟩ dX10_orderStops_227 ⟨_, rfl, ?_⟩
      exact ⟨zFr_t hF (zFr_s k1 (by decide)), fun i hi => by rw [k1.2.1 147 (by decide) (by decide)]; exact h4 i hi, fun i k hi hk => (hBt i k hi hk).2, U, hR, Or.inr ⟨q, rfl, k2⟩⟩
    · refine zk_aload_n hX dX10_orderStops_202 rfl ?_
      refine zk_iconst (v := 0) hX dX10_orderStops_203 (by decide) ?_
      refine zk_bipush (v := -9) hX dX10_orderStops_204 (by decide) ?_
      refine zk_V2i hX dX10_orderStops_206 kcX10_leastRest mlX10_80 viX10_leastRest rfl k_147 z_147 cl (Nat.le_of_ble_eq_true rfl) rfl ?_
      refine zk_istore (lo' := [_, _, _, _, _, _, _]) hX dX10_orderStops_209 (Nat.le_of_ble_eq_true rfl) rfl rfl ?_
      refine zk_iload hX dX10_orderStops_211 rfl ?_
      refine zk_ldc hX dX10_orderStops_213 cnX10_79 ?_
      rw [eL]
      refine zk_icmp_lt (tgt := 221) hX dX10_orderStops_215 (by decide) (fun c215 => ?_) (fun c215 => ?_)
      · exact absurd c215 (nI_nlt (by omega) (by omega))
      refine zk_bipush (v := -9) hX dX10_orderStops_218 (by decide) ?_
      refine zk_iret hX hE rfl ⟨rfl, rfl⟩ dX10_orderStops_220 ⟨_, rfl, ?_⟩
      exact ⟨hF, h4, fun i k hi hk => (hBt i k hi hk).2, U, hR, Or.inl ⟨q, rfl⟩⟩
  have dp : ∀ m w1 U (a6 : Value), m ≤ oAll s → zFr [147, 148, 149, 153, 154, 155, 156, 157, 158, 159, 160, 161, 162] [] [] w w1 → (∀ i, i ≠ 2 → w1.1 147 i = w.1 147 i) → (∀ i k, i < s → k < s → w1.1 (153 + i) k = nI (oB W i k) ∧ ∀ m, W i k = some m → m < 4096) → oRec s (oB W) U m → (∀ d, m < d → d ≤ oAll s → ∀ l, l < s → w1.1 161 (d * 8 + l) = nI (U d l)) → zk0 G X mX10_orderStops 132 [.ref 147, .ref 131, .ref 26, .int (nI T), .int (nI (oAll s)), .int (nI m), a6] [] w1 := by
    intro m
    induction m with
    | zero =>
      intro w1 U a6 hm hF h4 hBt hR hC
      refine zk_iload hX dX10_orderStops_132 rfl ?_
      refine zk_if_le (tgt := 202) hX dX10_orderStops_134 (by decide) (fun c134 => ?_) (fun c134 => ?_)
      rotate_left
      · exact absurd (by decide) c134
      exact fin w1 U _ _ hF h4 hBt hR hC
    | succ d ih =>
      intro w1 U a6 hm hF h4 hBt hR hC
      have hs1 : w1.1 147 3 = nI s := (h4 3 (by decide)).trans hs
      have hB : ∀ i k, i < s → k < s → oB W i k ≤ 1000000 := fun i k hi hk => by
        unfold oB
        cases e : W i k with
        | none => exact Nat.le_refl _
        | some m =>
          have := (hBt i k hi hk).2 m e
          show m ≤ 1000000
          omega
      generalize eV : (fun l => if d + 1 = oAll s then oB W l l else oV s (oB W) U (d + 1) (some l)) = V
      have inner : ∀ z l w2, l + z = s → zFr [161] [] [] w1 w2 → (∀ d', d + 1 < d' → d' ≤ oAll s → ∀ l, l < s → w2.1 161 (d' * 8 + l) = nI (U d' l)) → (∀ j, j < l → w2.1 161 ((d + 1) * 8 + j) = nI (V j)) → zk0 G X mX10_orderStops 140 [.ref 147, .ref 131, .ref 26, .int (nI T), .int (nI (oAll s)), .int (nI (d + 1)), .int (nI l)] [] w2 := by
        intro z
        induction z with
        | zero =>
          intro l w2 hl hF2 g1 g2
          obtain rfl : s = l := by omega
          have hw2 := zFr_wf (zFr_t hF (zFr_s hF2 (by decide))) hw
          refine zk_iload hX dX10_orderStops_140 rfl ?_
          refine zk_aload_n hX dX10_orderStops_142 rfl ?_
          refine zk_getI hX dX10_orderStops_143 flX10_72 k_147 z_147 ?_
          refine zk_icmp_ge (tgt := 196) hX dX10_orderStops_146 (by decide) (fun c146 => ?_) (fun c146 => ?_)
          rotate_left
          · exact absurd (by rw [hF2.2.1 147 (by decide) (by decide), hs1]; exact nI_le (Nat.le_refl _) (by omega)) c146
          refine zk_iinc (lo' := [_, _, _, _, _, _, _]) hX dX10_orderStops_196 rfl (by exact zdec1 _) (Nat.le_of_ble_eq_true rfl) rfl rfl ?_
          refine zk_goto (tgt := 132) hX dX10_orderStops_199 (by decide) ?_
          rw [show nI (d + 1) - 1 = nI d from nI_pred d]
          refine ih w2 (fun d' l => if d' = d + 1 then V l else U d' l) _ (by omega) (zFr_t hF (zFr_s hF2 (by decide))) (fun i hi => by rw [hF2.2.1 147 (by decide) (by decide)]; exact h4 i hi) (fun i k hi hk => by rw [hF2.2.1 (153 + i) (by simp; omega) (by omega)]; exact hBt i k hi hk) ?_ (fun d' h1 h2 l hl => ?_)
          · intro d' h1 h2 l hl
            have same : ∀ e, d + 1 ≤ e → e ≤ oAll s → ∀ y, oV s (oB W) (fun d' l => if d' = d + 1 then V l else U d' l) e (some y) = oV s (oB W) U e (some y) := fun e he he2 y => by
              refine oMin_e (fun x hx => ?_)
              by_cases q : oP e x = true
              · rw [if_pos q, if_pos q]
                have := oAdd_gt (oP_t.mp q)
                show min 1000000 (oBo (oB W) (some y) x + (if e ||| 1 <<< x = d + 1 then V x else U (e ||| 1 <<< x) x)) = min 1000000 (oBo (oB W) (some y) x + U (e ||| 1 <<< x) x)
                rw [if_neg (by omega)]
              · rw [if_neg q, if_neg q]
            show (if d' = d + 1 then V l else U d' l) = if d' = oAll s then oB W l l else oV s (oB W) (fun d' l => if d' = d + 1 then V l else U d' l) d' (some l)
            rw [same d' (by omega) h2 l]
            by_cases e : d' = d + 1
            · rw [if_pos e, ← eV, e]
            · rw [if_neg e]
              exact hR d' (by omega) h2 l hl
          · show w2.1 161 (d' * 8 + l) = nI (if d' = d + 1 then V l else U d' l)
            by_cases e : d' = d + 1
            · rw [if_pos e, e]
              exact g2 l hl
            · rw [if_neg e]
              exact g1 d' (by omega) h2 l hl
        | succ z ihz =>
          intro l w2 hl hF2 g1 g2
          have hFw := zFr_t hF (zFr_s hF2 (by decide))
          have hw2 := zFr_wf hFw hw
          have hs2 : w2.1 147 3 = nI s := by rw [hF2.2.1 147 (by decide) (by decide)]; exact hs1
          have nx : zk0 G X mX10_orderStops 140 [.ref 147, .ref 131, .ref 26, .int (nI T), .int (nI (oAll s)), .int (nI (d + 1)), .int (nI (l + 1))] [] (zsi w2 161 ((d + 1) * 8 + l) (nI (V l))) := by
            refine ihz (l + 1) _ (by omega) (zFr_t hF2 (zFr_i (by decide) (by decide))) (fun d' h1 h2 j hj => ?_) (fun j hj => ?_)
            · rw [zsi_1, if_neg (by omega)]
              exact g1 d' h1 h2 j hj
            · rw [zsi_1]
              by_cases e : j = l
              · rw [if_pos ⟨rfl, by rw [e]⟩, e]
              · rw [if_neg (by omega)]
                exact g2 j (by omega)
          by_cases e : d + 1 = oAll s
          · have ev : V l = oB W l l := by rw [← eV]; exact if_pos e
            have eb : w2.1 (153 + l) l = nI (oB W l l) := by rw [hF2.2.1 (153 + l) (by simp; omega) (by omega)]; exact (hBt l l (by omega) (by omega)).1
            rw [ev] at nx
            refine zk_iload hX dX10_orderStops_140 rfl ?_
            refine zk_aload_n hX dX10_orderStops_142 rfl ?_
            refine zk_getI hX dX10_orderStops_143 flX10_72 k_147 z_147 ?_
            refine zk_icmp_ge (tgt := 196) hX dX10_orderStops_146 (by decide) (fun c146 => ?_) (fun c146 => ?_)
            · exact absurd c146 (by rw [hs2]; exact nI_ge (by omega) (by omega))
            refine zk_aload_n hX dX10_orderStops_149 rfl ?_
            refine zk_getR hX dX10_orderStops_150 flX10_29 k_147 z_147 (hw2 _ _ (by decide) |>.trans r_147_7) ?_
            refine zk_iload hX dX10_orderStops_153 rfl ?_
            refine zk_bipush (v := 8) hX dX10_orderStops_155 (by decide) ?_
            refine zk_imul hX dX10_orderStops_157 ?_
            refine zk_iload hX dX10_orderStops_158 rfl ?_
            refine zk_iadd hX dX10_orderStops_160 ?_
            refine zk_iload hX dX10_orderStops_161 rfl ?_
            refine zk_iload hX dX10_orderStops_163 rfl ?_
            refine zk_icmp_ne (tgt := 181) hX dX10_orderStops_165 (by decide) (fun c165 => ?_) (fun c165 => ?_)
            · exact absurd c165 (fun q => q (by rw [e]))
            refine zk_aload_n hX dX10_orderStops_168 rfl ?_
            refine zk_getR hX dX10_orderStops_169 flX10_26 k_147 z_147 (hw2 _ _ (by decide) |>.trans r_147_6) ?_
            refine zk_iload hX dX10_orderStops_172 rfl ?_
            refine zk_between hX hw2 dX10_orderStops_174 rfl (by first | assumption | omega) ?_
            refine zk_iload hX dX10_orderStops_175 rfl ?_
            refine zk_ialdE hX dX10_orderStops_177 rfl (show 153 + _ < 202 by omega) (zBtz _ (by first | assumption | omega)) (by first | assumption | omega) rfl ?_
            rw [eb]
            refine zk_goto (tgt := 189) hX dX10_orderStops_178 (by decide) ?_
            refine zk_iastE hX dX10_orderStops_189 (nI_addE (nI_mulE rfl (nI_k 8 rfl)) rfl) k_161 z_161 (by first | assumption | omega) rfl ?_
            refine zk_iinc (lo' := [_, _, _, _, _, _, _]) hX dX10_orderStops_190 rfl (by first | exact zinc _ | exact rfl) (Nat.le_of_ble_eq_true rfl) rfl rfl ?_
            refine zk_goto (tgt := 140) hX dX10_orderStops_193 (by decide) ?_
            exact nx
          · have ev : V l = oV s (oB W) U (d + 1) (some l) := by rw [← eV]; exact if_neg e
            have hH2 : oHas w2 s (oB W) U (d + 1) (some l) := by
              refine ⟨fun l' hl' => ?_, fun x hx hb => g1 _ (by have := oAdd_gt hb; omega) (oAdd_le hm hx) x hx, fun x hx hb => ?_⟩
              · cases hl'
                exact ⟨by omega, fun x hx => by rw [hF2.2.1 (153 + l) (by simp; omega) (by omega)]; exact (hBt l x (by omega) hx).1⟩
              · have a1 := oRec_le hR hB (d := (d + 1) ||| 1 <<< x) (by have := oAdd_gt hb; omega) (oAdd_le hm hx) hx
                have a2 := hB l x (by omega) hx
                show oB W l x + U ((d + 1) ||| 1 <<< x) x < 3000000
                omega
            have cl := s_X10_leastRest (G := G) hw2 hs8 hs2 (show d + 1 < 256 by omega) hH2
            rw [← ev] at cl
            refine zk_iload hX dX10_orderStops_140 rfl ?_
            refine zk_aload_n hX dX10_orderStops_142 rfl ?_
            refine zk_getI hX dX10_orderStops_143 flX10_72 k_147 z_147 ?_
            refine zk_icmp_ge (tgt := 196) hX dX10_orderStops_146 (by decide) (fun c146 => ?_) (fun c146 => ?_)
            · exact absurd c146 (by rw [hs2]; exact nI_ge (by omega) (by omega))
            refine zk_aload_n hX dX10_orderStops_149 rfl ?_
            refine zk_getR hX dX10_orderStops_150 flX10_29 k_147 z_147 (hw2 _ _ (by decide) |>.trans r_147_7) ?_
            refine zk_iload hX dX10_orderStops_153 rfl ?_
            refine zk_bipush (v := 8) hX dX10_orderStops_155 (by decide) ?_
            refine zk_imul hX dX10_orderStops_157 ?_
            refine zk_iload hX dX10_orderStops_158 rfl ?_
            refine zk_iadd hX dX10_orderStops_160 ?_
            refine zk_iload hX dX10_orderStops_161 rfl ?_
            refine zk_iload hX dX10_orderStops_163 rfl ?_
            refine zk_icmp_ne (tgt := 181) hX dX10_orderStops_165 (by decide) (fun c165 => ?_) (fun c165 => ?_)
            rotate_left
            · exact absurd (nI_inj (by omega) (by omega) c165) e
            refine zk_aload_n hX dX10_orderStops_181 rfl ?_
            refine zk_iload hX dX10_orderStops_182 rfl ?_
            refine zk_iload hX dX10_orderStops_184 rfl ?_
            refine zk_V2i hX dX10_orderStops_186 kcX10_leastRest mlX10_80 viX10_leastRest rfl k_147 z_147 cl (Nat.le_of_ble_eq_true rfl) rfl ?_
            refine zk_iastE hX dX10_orderStops_189 (nI_addE (nI_mulE rfl (nI_k 8 rfl)) rfl) k_161 z_161 (by first | assumption | omega) rfl ?_
            refine zk_iinc (lo' := [_, _, _, _, _, _, _]) hX dX10_orderStops_190 rfl (by first | exact zinc _ | exact rfl) (Nat.le_of_ble_eq_true rfl) rfl rfl ?_
            refine zk_goto (tgt := 140) hX dX10_orderStops_193 (by decide) ?_
            exact nx
      refine zk_iload hX dX10_orderStops_132 rfl ?_
      refine zk_if_le (tgt := 202) hX dX10_orderStops_134 (by decide) (fun c134 => ?_) (fun c134 => ?_)
      · exact absurd (nI_leD (y := 0) c134 (by omega) (by omega)) (by omega)
      refine zk_iconst (v := 0) hX dX10_orderStops_137 (by decide) ?_
      refine zk_istore (lo' := [_, _, _, _, _, _, _]) hX dX10_orderStops_138 (Nat.le_of_ble_eq_true rfl) rfl rfl ?_
      exact inner s 0 w1 (by omega) zFr_r (fun d' h1 h2 l hl => hC d' h1 h2 l hl) (fun j hj => absurd hj (by omega))
  have ways : ∀ m a w1 (a5 a6 : Value), a + m = s → zFr [147, 148, 149, 153, 154, 155, 156, 157, 158, 159, 160, 161, 162] [] [] w w1 → (∀ i, i ≠ 2 → w1.1 147 i = w.1 147 i) → (∀ i k, i < s → k < s → (i < a ∨ k < a) → w1.1 (153 + i) k = nI (oB W i k) ∧ ∀ m, W i k = some m → m < 4096) → zk0 G X mX10_orderStops 3 [.ref 147, .ref 131, .ref 26, .int (nI T), .int (nI a), a5, a6] [] w1 := by
    intro m
    induction m with
    | zero =>
      intro a w1 a5 a6 ha hF h4 hBt
      obtain rfl : a = s := by omega
      have hw1 := zFr_wf hF hw
      have hs1 : w1.1 147 3 = nI a := (h4 3 (by decide)).trans hs
      refine zk_iload hX dX10_orderStops_3 rfl ?_
      refine zk_aload_n hX dX10_orderStops_5 rfl ?_
      refine zk_getI hX dX10_orderStops_6 flX10_72 k_147 z_147 ?_
      refine zk_icmp_ge (tgt := 118) hX dX10_orderStops_9 (by decide) (fun c9 => ?_) (fun c9 => ?_)
      rotate_left
      · exact absurd (by rw [hs1]; exact nI_le (Nat.le_refl _) (by omega)) c9
      refine zk_iconst (v := 1) hX dX10_orderStops_118 (by decide) ?_
      refine zk_aload_n hX dX10_orderStops_119 rfl ?_
      refine zk_getI hX dX10_orderStops_120 flX10_72 k_147 z_147 ?_
      rw [hs1, show (1 : Int32) = nI 1 from rfl]
      refine zk_ishl hX dX10_orderStops_123 ?_
      rw [nI_shl _ (by omega)]
      refine zk_iconst (v := 1) hX dX10_orderStops_124 (by decide) ?_
      refine zk_isub hX dX10_orderStops_125 ?_
      rw [show (1 : Int32) = nI 1 from rfl, nI_sub (by rw [Nat.one_shiftLeft]; exact Nat.two_pow_pos _)]
      refine zk_istore (lo' := [_, _, _, _, _, _, _]) hX dX10_orderStops_126 (Nat.le_of_ble_eq_true rfl) rfl rfl ?_
      refine zk_iload hX dX10_orderStops_128 rfl ?_
      refine zk_istore (lo' := [_, _, _, _, _, _, _]) hX dX10_orderStops_130 (Nat.le_of_ble_eq_true rfl) rfl rfl ?_
      exact dp (oAll a) w1 (fun _ _ => 0) _ (Nat.le_refl _) hF h4 (fun i k hi hk => hBt i k hi hk (Or.inl hi)) (fun d h1 h2 => absurd h2 (by omega)) (fun d h1 h2 => absurd h2 (by omega))
    | succ m ih =>
      intro a w1 a5 a6 ha hF h4 hBt
      have hs1 : w1.1 147 3 = nI s := (h4 3 (by decide)).trans hs
      obtain ⟨p1, p2, p3, p4, p5, p6⟩ := pre w1 hF
      have inner : ∀ w3, cWk w3 (zadj (zsp D) (dJ D)) (rH D (-1) T) (c a) (zpr (zsp D) (dJ D)) (-9) → ∀ z b w2 (a6 : Value), b + z = s → a ≤ b → zFr [147, 148, 149, 153, 154, 155, 156, 157, 158, 159, 160, 161, 162] [] [] w w2 → (∀ i, i ≠ 2 → w2.1 147 i = w.1 147 i) → w2.1 148 = w3.1 148 → (∀ i k, i < s → k < s → ((i < a ∨ k < a) ∨ (i = a ∧ k < b) ∨ (k = a ∧ i < b)) → w2.1 (153 + i) k = nI (oB W i k) ∧ ∀ m, W i k = some m → m < 4096) → zk0 G X mX10_orderStops 37 [.ref 147, .ref 131, .ref 26, .int (nI T), .int (nI a), .int (nI b), a6] [] w2 := by
        intro w3 hwk z
        induction z with
        | zero =>
          intro b w2 a6 hb hab hF2 h42 e148 hBt2
          obtain rfl : b = s := by omega
          have hw2 := zFr_wf hF2 hw
          refine zk_iload hX dX10_orderStops_37 rfl ?_
          refine zk_aload_n hX dX10_orderStops_39 rfl ?_
          refine zk_getI hX dX10_orderStops_40 flX10_72 k_147 z_147 ?_
          refine zk_icmp_ge (tgt := 112) hX dX10_orderStops_43 (by decide) (fun c43 => ?_) (fun c43 => ?_)
          rotate_left
          · exact absurd (by rw [h42 3 (by decide), hs]; exact nI_le (Nat.le_refl _) (by omega)) c43
          refine zk_iinc (lo' := [_, _, _, _, _, _, _]) hX dX10_orderStops_112 rfl (by first | exact zinc _ | exact rfl) (Nat.le_of_ble_eq_true rfl) rfl rfl ?_
          refine zk_goto (tgt := 3) hX dX10_orderStops_115 (by decide) ?_
          refine ih (a + 1) w2 _ _ (by omega) hF2 h42 (fun i k hi hk hik => hBt2 i k hi hk (by omega))
        | succ z ihz =>
          intro b w2 a6 hb hab hF2 h42 e148 hBt2
          have hw2 := zFr_wf hF2 hw
          have hbs : b < s := by omega
          obtain ⟨q1, q2, q3, q4, q5, q6⟩ := pre w2 hF2
          have hcb := hc b hbs
          obtain ⟨r, r1, r2, r3⟩ := wk_far hN hwk hcb.2
          have er : W a b = r := oWd_u (hW a b) r1
          have e151 : w2.1 151 b = nI (c b) := by rw [q5]; exact hcb.1
          have nx : ∀ a6 : Value, zk0 G X mX10_orderStops 37 [.ref 147, .ref 131, .ref 26, .int (nI T), .int (nI a), .int (nI (b + 1)), a6] [] (zsi (zsi w2 (153 + a) b (nI (oB W a b))) (153 + b) a (nI (oB W a b))) := by
            intro a6
            have hF3 : zFr [153, 154, 155, 156, 157, 158, 159, 160] [] [] w2 (zsi (zsi w2 (153 + a) b (nI (oB W a b))) (153 + b) a (nI (oB W a b))) := zFr_t (zFr_i (by simp; omega) (by omega)) (zFr_i (by simp; omega) (by omega))
            refine ihz (b + 1) _ _ (by omega) (by omega) (zFr_t hF2 (zFr_s hF3 (by decide))) (fun i hi => by rw [hF3.2.1 147 (by decide) (by decide)]; exact h42 i hi) (by rw [hF3.2.1 148 (by decide) (by decide)]; exact e148) (fun i k hi hk hik => ?_)
            rw [zsi_1, zsi_1]
            by_cases g1 : i = b ∧ k = a
            · rw [if_pos ⟨by omega, g1.2⟩, g1.1, g1.2, hsB b a]
              exact ⟨rfl, fun m hm => r2 m (by rw [← er, hsy a b]; exact hm)⟩
            · by_cases g2 : i = a ∧ k = b
              · rw [if_neg (by omega), if_pos ⟨by omega, g2.2⟩, g2.1, g2.2]
                exact ⟨rfl, fun m hm => r2 m (by rw [← er]; exact hm)⟩
              · rw [if_neg (by omega), if_neg (by omega)]
                exact hBt2 i k hi hk (by omega)
          have hw3 : zWf (zsi w2 (153 + a) b (nI (oB W a b))) := zWf_i hw2
          have e1 : (zsi w2 (153 + a) b (nI (oB W a b))).1 (153 + a) b = nI (oB W a b) := by rw [zsi_1, if_pos ⟨rfl, rfl⟩]
          rcases r3 with ⟨rfl, rn⟩ | ⟨m', rfl, rn⟩
          · have eo : (1000000 : Int32) = nI (oB W a b) := by unfold oB; rw [er]; rfl
            refine zk_iload hX dX10_orderStops_37 rfl ?_
            refine zk_aload_n hX dX10_orderStops_39 rfl ?_
            refine zk_getI hX dX10_orderStops_40 flX10_72 k_147 z_147 ?_
            refine zk_icmp_ge (tgt := 112) hX dX10_orderStops_43 (by decide) (fun c43 => ?_) (fun c43 => ?_)
            · exact absurd c43 (by rw [h42 3 (by decide), hs]; exact nI_ge (by omega) (by omega))
            refine zk_aload_n hX dX10_orderStops_46 rfl ?_
            refine zk_getR hX dX10_orderStops_47 flX10_26 k_147 z_147 (hw2 _ _ (by decide) |>.trans r_147_6) ?_
            refine zk_iload hX dX10_orderStops_50 rfl ?_
            refine zk_between hX hw2 dX10_orderStops_52 rfl (by first | assumption | omega) ?_
            refine zk_iload hX dX10_orderStops_53 rfl ?_
            refine zk_aload_n hX dX10_orderStops_55 rfl ?_
            refine zk_aload_n hX dX10_orderStops_56 rfl ?_
            refine zk_getR hX dX10_orderStops_57 flX10_21 k_147 z_147 (hw2 _ _ (by decide) |>.trans r_147_5) ?_
            refine zk_iload hX dX10_orderStops_60 rfl ?_
            refine zk_ialdE hX dX10_orderStops_62 rfl k_151 z_151 (by first | assumption | omega) rfl ?_
            rw [e151]
            refine zk_V1i hX dX10_orderStops_63 kcX10_farOf mlX10_49 viX10_farOf rfl k_147 z_147 (s_X10_farOf hw2 (by omega)) (Nat.le_of_ble_eq_true rfl) rfl ?_
            rw [e148]
            refine zk_if_ge (tgt := 74) hX dX10_orderStops_66 (by decide) (fun c66 => ?_) (fun c66 => ?_)
            · exact absurd c66 (Int32.not_le.mpr rn)
            refine zk_ldc hX dX10_orderStops_69 cnX10_79 ?_
            refine zk_goto (tgt := 85) hX dX10_orderStops_71 (by decide) ?_
            rw [eo]
            refine zk_iastE hX dX10_orderStops_85 rfl (show 153 + _ < 202 by omega) (zBtz _ (by first | assumption | omega)) (by first | assumption | omega) rfl ?_
            refine zk_aload_n hX dX10_orderStops_86 rfl ?_
            refine zk_getR hX dX10_orderStops_87 flX10_26 k_147 z_147 (hw3 _ _ (by decide) |>.trans r_147_6) ?_
            refine zk_iload hX dX10_orderStops_90 rfl ?_
            refine zk_between hX hw3 dX10_orderStops_92 rfl (by first | assumption | omega) ?_
            refine zk_iload hX dX10_orderStops_93 rfl ?_
            refine zk_aload_n hX dX10_orderStops_95 rfl ?_
            refine zk_getR hX dX10_orderStops_96 flX10_26 k_147 z_147 (hw3 _ _ (by decide) |>.trans r_147_6) ?_
            refine zk_iload hX dX10_orderStops_99 rfl ?_
            refine zk_between hX hw3 dX10_orderStops_101 rfl (by first | assumption | omega) ?_
            refine zk_iload hX dX10_orderStops_102 rfl ?_
            refine zk_ialdE hX dX10_orderStops_104 rfl (show 153 + _ < 202 by omega) (zBtz _ (by first | assumption | omega)) (by first | assumption | omega) rfl ?_
            rw [e1]
            refine zk_iastE hX dX10_orderStops_105 rfl (show 153 + _ < 202 by omega) (zBtz _ (by first | assumption | omega)) (by first | assumption | omega) rfl ?_
            refine zk_iinc (lo' := [_, _, _, _, _, _, _]) hX dX10_orderStops_106 rfl (by first | exact zinc _ | exact rfl) (Nat.le_of_ble_eq_true rfl) rfl rfl ?_
            refine zk_goto (tgt := 37) hX dX10_orderStops_109 (by decide) ?_
            exact nx _
          · have hm9 := r2 m' rfl
            have eo : nI m' = nI (oB W a b) := by unfold oB; rw [er]; rfl
            refine zk_iload hX dX10_orderStops_37 rfl ?_
            refine zk_aload_n hX dX10_orderStops_39 rfl ?_
            refine zk_getI hX dX10_orderStops_40 flX10_72 k_147 z_147 ?_
            refine zk_icmp_ge (tgt := 112) hX dX10_orderStops_43 (by decide) (fun c43 => ?_) (fun c43 => ?_)
            · exact absurd c43 (by rw [h42 3 (by decide), hs]; exact nI_ge (by omega) (by omega))
            refine zk_aload_n hX dX10_orderStops_46 rfl ?_
            refine zk_getR hX dX10_orderStops_47 flX10_26 k_147 z_147 (hw2 _ _ (by decide) |>.trans r_147_6) ?_
            refine zk_iload hX dX10_orderStops_50 rfl ?_
            refine zk_between hX hw2 dX10_orderStops_52 rfl (by first | assumption | omega) ?_
            refine zk_iload hX dX10_orderStops_53 rfl ?_
            refine zk_aload_n hX dX10_orderStops_55 rfl ?_
            refine zk_aload_n hX dX10_orderStops_56 rfl ?_
            refine zk_getR hX dX10_orderStops_57 flX10_21 k_147 z_147 (hw2 _ _ (by decide) |>.trans r_147_5) ?_
            refine zk_iload hX dX10_orderStops_60 rfl ?_
            refine zk_ialdE hX dX10_orderStops_62 rfl k_151 z_151 (by first | assumption | omega) rfl ?_
            rw [e151]
            refine zk_V1i hX dX10_orderStops_63 kcX10_farOf mlX10_49 viX10_farOf rfl k_147 z_147 (s_X10_farOf hw2 (by omega)) (Nat.le_of_ble_eq_true rfl) rfl ?_
            rw [e148, rn]
            refine zk_if_ge (tgt := 74) hX dX10_orderStops_66 (by decide) (fun c66 => ?_) (fun c66 => ?_)
            rotate_left
            · exact absurd (nI_pos' (by omega)) c66
            refine zk_aload_n hX dX10_orderStops_74 rfl ?_
            refine zk_aload_n hX dX10_orderStops_75 rfl ?_
            refine zk_getR hX dX10_orderStops_76 flX10_21 k_147 z_147 (hw2 _ _ (by decide) |>.trans r_147_5) ?_
            refine zk_iload hX dX10_orderStops_79 rfl ?_
            refine zk_ialdE hX dX10_orderStops_81 rfl k_151 z_151 (by first | assumption | omega) rfl ?_
            rw [e151]
            refine zk_V1i hX dX10_orderStops_82 kcX10_farOf mlX10_49 viX10_farOf rfl k_147 z_147 (s_X10_farOf hw2 (by omega)) (Nat.le_of_ble_eq_true rfl) rfl ?_
            rw [e148, rn, eo]
            refine zk_iastE hX dX10_orderStops_85 rfl (show 153 + _ < 202 by omega) (zBtz _ (by first | assumption | omega)) (by first | assumption | omega) rfl ?_
            refine zk_aload_n hX dX10_orderStops_86 rfl ?_
            refine zk_getR hX dX10_orderStops_87 flX10_26 k_147 z_147 (hw3 _ _ (by decide) |>.trans r_147_6) ?_
            refine zk_iload hX dX10_orderStops_90 rfl ?_
            refine zk_between hX hw3 dX10_orderStops_92 rfl (by first | assumption | omega) ?_
            refine zk_iload hX dX10_orderStops_93 rfl ?_
            refine zk_aload_n hX dX10_orderStops_95 rfl ?_
            refine zk_getR hX dX10_orderStops_96 flX10_26 k_147 z_147 (hw3 _ _ (by decide) |>.trans r_147_6) ?_
            refine zk_iload hX dX10_orderStops_99 rfl ?_
            refine zk_between hX hw3 dX10_orderStops_101 rfl (by first | assumption | omega) ?_
            refine zk_iload hX dX10_orderStops_102 rfl ?_
            refine zk_ialdE hX dX10_orderStops_104 rfl (show 153 + _ < 202 by omega) (zBtz _ (by first | assumption | omega)) (by first | assumption | omega) rfl ?_
            rw [e1]
            refine zk_iastE hX dX10_orderStops_105 rfl (show 153 + _ < 202 by omega) (zBtz _ (by first | assumption | omega)) (by first | assumption | omega) rfl ?_
            refine zk_iinc (lo' := [_, _, _, _, _, _, _]) hX dX10_orderStops_106 rfl (by first | exact zinc _ | exact rfl) (Nat.le_of_ble_eq_true rfl) rfl rfl ?_
            refine zk_goto (tgt := 37) hX dX10_orderStops_109 (by decide) ?_
            exact nx _
      have hca := hc a (by omega)
      have e151 : w1.1 151 a = nI (c a) := by rw [p5]; exact hca.1
      refine zk_iload hX dX10_orderStops_3 rfl ?_
      refine zk_aload_n hX dX10_orderStops_5 rfl ?_
      refine zk_getI hX dX10_orderStops_6 flX10_72 k_147 z_147 ?_
      refine zk_icmp_ge (tgt := 118) hX dX10_orderStops_9 (by decide) (fun c9 => ?_) (fun c9 => ?_)
      · exact absurd c9 (by rw [hs1]; exact nI_ge (by omega) (by omega))
      refine zk_aload_n hX dX10_orderStops_12 rfl ?_
      refine zk_aload_n hX dX10_orderStops_13 rfl ?_
      refine zk_iload_n hX dX10_orderStops_14 rfl ?_
      refine zk_V2vp hX dX10_orderStops_15 kcX10_openHeld mlX10_75 viX10_openHeld rfl k_147 z_147 (s_X10_openHeld p1 hD p3 hT9) (Nat.le_of_ble_eq_true rfl) rfl (fun w2 q2 => ?_)
      have hF2 : zFr [147, 148, 149, 153, 154, 155, 156, 157, 158, 159, 160, 161, 162] [] [] w w2 := zFr_t hF (zFr_s q2.1 (by decide))
      obtain ⟨b1, b2, b3, b4, b5, b6⟩ := pre w2 hF2
      refine zk_aload_n hX dX10_orderStops_18 rfl ?_
      refine zk_aload_n hX dX10_orderStops_19 rfl ?_
      refine zk_aload_n hX dX10_orderStops_20 rfl ?_
      refine zk_aload_n hX dX10_orderStops_21 rfl ?_
      refine zk_getR hX dX10_orderStops_22 flX10_21 k_147 z_147 (b1 _ _ (by decide) |>.trans r_147_5) ?_
      refine zk_iload hX dX10_orderStops_25 rfl ?_
      refine zk_ialdE hX dX10_orderStops_27 rfl k_151 z_151 (by first | assumption | omega) rfl ?_
      rw [b5, ← p5, e151]
      refine zk_bipush (v := -9) hX dX10_orderStops_28 (by decide) ?_
      refine zk_V4vp hX dX10_orderStops_30 kcX10_walk mlX10_45 viX10_walk rfl k_147 z_147 (s_X10_walk b1 hD b2 b4 hN q2.2 hON (by omega) (Or.inl rfl)) (Nat.le_of_ble_eq_true rfl) rfl (fun w3 q3 => ?_)
      obtain ⟨k1, k2, k3⟩ := q3
      refine zk_iload hX dX10_orderStops_33 rfl ?_
      refine zk_istore (lo' := [_, _, _, _, _, _, _]) hX dX10_orderStops_35 (Nat.le_of_ble_eq_true rfl) rfl rfl ?_
      refine inner w3 k3 (m + 1) a w3 _ (by omega) (Nat.le_refl _) (zFr_t hF2 (zFr_s k1 (by decide))) (fun i hi => by rw [k2 i hi, q2.1.2.1 147 (by decide) (by decide)]; exact h4 i hi) rfl (fun i k hi hk hik => ?_)
      rw [k1.2.1 (153 + i) (by simp; omega) (by omega), q2.1.2.1 (153 + i) (by simp; omega) (by omega)]
      exact hBt i k hi hk (by omega)
  refine zk_iconst (v := 0) hX dX10_orderStops_0 (by decide) ?_
  refine zk_istore (lo' := [_, _, _, _, _, _, _]) hX dX10_orderStops_1 (Nat.le_of_ble_eq_true rfl) rfl rfl ?_
  exact ways s 0 w _ _ (by omega) zFr_r (fun _ _ => rfl) (fun i k hi hk hik => absurd hik (by omega))
