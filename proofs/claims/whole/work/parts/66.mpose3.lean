theorem s_X12_pose_247 {G : zG} {X : zX} {Q : Int32 → zW → Prop} {w : zW} {D : zD} {r n wr ld T : Nat} {j v3 : Int32} {t : Nat → Int32} (hX : zH G X mX12_pose) (hE : zR G X mX12_pose zN (fun v w1 => ∃ r, v = some (.int r) ∧ Q r w1)) (hw : zWf w) (hM : mHd w D) (hD : zDok D) (hn : n < 12) (hP : w.1 166 33 = nI n) (hT9 : T ≤ 99) (hT : w.1 166 24 = nI T) (h6t : zT6 D t) (k2 : ∀ i, i < dJ D → w.1 179 i = t i) (hwr : wr < 1000) (hld : ld < 1000)
    (hQ : ∀ w5 w', zFr [180, 181] [] [29] w w5 → mFin w5 w' n (if zk3 (max wr (zwrL zno (zP D t (-1)))) (max ld (zld t)) T = 1 then 4 else zk3 (max wr (zwrL zno (zP D t (-1)))) (max ld (zld t)) T) j (nI (max wr (zwrL zno (zP D t (-1))))) (nI (max ld (zld t)) - nI T) → Q (nI n) w') :
    zk0 G X mX12_pose 247 [.ref 166, .int (nI r), .int j, .int v3, .int (nI n), .int (zk3 wr ld T), .int (nI wr), .int (nI ld - nI T), .null] [] w := by
  have h6 := hD.1.2.2
  have hT2 : zT2 D t := fun i hi => (h6t i (by omega)).1
  have hwl := Nat.le_trans (zwrL_le (zP D t (-1)) zno) (zP_len hD t (-1))
  have hl2 := zld_le (fun i hi => (h6t i hi).1)
  have eld : zldo D t (-1) (dJ D) = zld t := zld_o hD (fun i h1 h2 => (h6t i h2).2 h1)
  have hT22 : zT2 D (w.1 179) := zT2_c hT2 k2
  refine zk_aload_n hX dX12_pose_247 rfl ?_
  refine zk_iconst (v := -1) hX dX12_pose_248 (by decide) ?_
  refine zk_V1vp hX dX12_pose_249 kcX12_layPoints mlX12_260 viX12_layPoints rfl k_166 z_166 (s_X12_layPoints hw hM hD hT22 (Or.inl rfl)) (Nat.le_of_ble_eq_true rfl) rfl (fun w4 q4 => ?_)
  obtain ⟨k4, p4⟩ := q4
  have hw4 := zFr_wf k4 hw
  have hM4 := mHd_f hM k4 (by decide)
  have e9 : w4.1 179 = w.1 179 := k4.2.1 179 (by decide) (by decide)
  have hTT : w4.1 166 24 = nI T := (by rw [k4.2.2.2 24 (by decide)]; exact hT)
  have ck := s_X12_kindNow (G := G) (T := T) hw4 hM4 hD (by rw [e9]; exact hT22) (o := -1) (Or.inl rfl) (by rw [e9]; exact p4) hTT hT9
  have ct := s_X12_turned (G := G) hw4 hM4 hD (by rw [e9]; exact hT22) (o := -1) (Or.inl rfl)
  rw [e9, zkd_c hD k2, zkd_k3, eld] at ck
  rw [e9, show zldo D (w.1 179) (-1) (dJ D) = zldo D t (-1) (dJ D) from zsm_c (fun i hi => by rw [k2 i hi]), eld] at ct
  have cw := s_X12_wrongMany (G := G) hw4 p4 (zP_len hD _ _)
  rw [zP_c hD k2] at cw
  refine zk_iload hX dX12_pose_252 rfl ?_
  refine zk_aload_n hX dX12_pose_254 rfl ?_
  refine zk_iconst (v := -1) hX dX12_pose_255 (by decide) ?_
  refine zk_V1i hX dX12_pose_256 kcX12_kindNow mlX12_263 viX12_kindNow rfl k_166 z_166 ck (Nat.le_of_ble_eq_true rfl) rfl ?_
  refine zk_S2i hX dX12_pose_259 kcX12_greater mlX12_287 smX12_greater rfl (s_X12_greater _ _) (Nat.le_of_ble_eq_true rfl) rfl ?_
  rw [zk3_mx]
  refine zk_istore (lo' := [_, _, _, _, _, _, _, _, _]) hX dX12_pose_262 (Nat.le_of_ble_eq_true rfl) rfl rfl ?_
  refine zk_iload hX dX12_pose_264 rfl ?_
  refine zk_iconst (v := 1) hX dX12_pose_266 (by decide) ?_
  refine zk_icmp_ne (tgt := 274) hX dX12_pose_267 (by decide) (fun c267 => ?_) (fun c267 => ?_)
  · refine zk_iload hX dX12_pose_274 rfl ?_
    refine zk_istore (lo' := [_, _, _, _, _, _, _, _, _]) hX dX12_pose_276 (Nat.le_of_ble_eq_true rfl) rfl rfl ?_
    refine zk_iload hX dX12_pose_278 rfl ?_
    refine zk_aload_n hX dX12_pose_280 rfl ?_
    refine zk_V0i hX dX12_pose_281 kcX12_wrongMany mlX12_245 viX12_wrongMany rfl k_166 z_166 cw (Nat.le_of_ble_eq_true rfl) rfl ?_
    refine zk_S2i hX dX12_pose_284 kcX12_greater mlX12_287 smX12_greater rfl (s_X12_greater _ _) (Nat.le_of_ble_eq_true rfl) rfl ?_
    rw [zgr_n (by omega) (by omega)]
    refine zk_istore (lo' := [_, _, _, _, _, _, _, _, _]) hX dX12_pose_287 (Nat.le_of_ble_eq_true rfl) rfl rfl ?_
    refine zk_iload hX dX12_pose_289 rfl ?_
    refine zk_aload_n hX dX12_pose_291 rfl ?_
    refine zk_iconst (v := -1) hX dX12_pose_292 (by decide) ?_
    refine zk_V1i hX dX12_pose_293 kcX12_turned mlX12_248 viX12_turned rfl k_166 z_166 ct (Nat.le_of_ble_eq_true rfl) rfl ?_
    refine zk_aload_n hX dX12_pose_296 rfl ?_
    refine zk_getI hX dX12_pose_297 flX12_121 k_166 z_166 ?_
    rw [hTT]
    refine zk_isub hX dX12_pose_300 ?_
    refine zk_S2i hX dX12_pose_301 kcX12_greater mlX12_287 smX12_greater rfl (s_X12_greater _ _) (Nat.le_of_ble_eq_true rfl) rfl ?_
    rw [zgr_s (by omega) (by omega) (by omega)]
    refine zk_istore (lo' := [_, _, _, _, _, _, _, _, _]) hX dX12_pose_304 (Nat.le_of_ble_eq_true rfl) rfl rfl ?_
    have hQ' := hQ w4
    first
      | (rw [if_pos (by first | exact c267 | exact Decidable.not_not.mp c267)] at hQ'
         exact s_X12_pose_306 hX hE hw4 hn (by rw [k4.2.2.2 33 (by decide)]; exact hP) (fun w' hf => hQ' w' k4 hf))
      | (rw [if_neg c267] at hQ'
         exact s_X12_pose_306 hX hE hw4 hn (by rw [k4.2.2.2 33 (by decide)]; exact hP) (fun w' hf => hQ' w' k4 hf))
  · refine zk_iconst (v := 4) hX dX12_pose_270 (by decide) ?_
    refine zk_goto (tgt := 276) hX dX12_pose_271 (by decide) ?_
    refine zk_istore (lo' := [_, _, _, _, _, _, _, _, _]) hX dX12_pose_276 (Nat.le_of_ble_eq_true rfl) rfl rfl ?_
    refine zk_iload hX dX12_pose_278 rfl ?_
    refine zk_aload_n hX dX12_pose_280 rfl ?_
    refine zk_V0i hX dX12_pose_281 kcX12_wrongMany mlX12_245 viX12_wrongMany rfl k_166 z_166 cw (Nat.le_of_ble_eq_true rfl) rfl ?_
    refine zk_S2i hX dX12_pose_284 kcX12_greater mlX12_287 smX12_greater rfl (s_X12_greater _ _) (Nat.le_of_ble_eq_true rfl) rfl ?_
    rw [zgr_n (by omega) (by omega)]
    refine zk_istore (lo' := [_, _, _, _, _, _, _, _, _]) hX dX12_pose_287 (Nat.le_of_ble_eq_true rfl) rfl rfl ?_
    refine zk_iload hX dX12_pose_289 rfl ?_
    refine zk_aload_n hX dX12_pose_291 rfl ?_
    refine zk_iconst (v := -1) hX dX12_pose_292 (by decide) ?_
    refine zk_V1i hX dX12_pose_293 kcX12_turned mlX12_248 viX12_turned rfl k_166 z_166 ct (Nat.le_of_ble_eq_true rfl) rfl ?_
    refine zk_aload_n hX dX12_pose_296 rfl ?_
    refine zk_getI hX dX12_pose_297 flX12_121 k_166 z_166 ?_
    rw [hTT]
    refine zk_isub hX dX12_pose_300 ?_
    refine zk_S2i hX dX12_pose_301 kcX12_greater mlX12_287 smX12_greater rfl (s_X12_greater _ _) (Nat.le_of_ble_eq_true rfl) rfl ?_
    rw [zgr_s (by omega) (by omega) (by omega)]
    refine zk_istore (lo' := [_, _, _, _, _, _, _, _, _]) hX dX12_pose_304 (Nat.le_of_ble_eq_true rfl) rfl rfl ?_
    have hQ' := hQ w4
    first
      | (rw [if_pos (by first | exact c267 | exact Decidable.not_not.mp c267)] at hQ'
         exact s_X12_pose_306 hX hE hw4 hn (by rw [k4.2.2.2 33 (by decide)]; exact hP) (fun w' hf => hQ' w' k4 hf))
      | (rw [if_neg c267] at hQ'
         exact s_X12_pose_306 hX hE hw4 hn (by rw [k4.2.2.2 33 (by decide)]; exact hP) (fun w' hf => hQ' w' k4 hf))
theorem s_X12_pose_g {G : zG} {w : zW} {D : zD} {r n T : Nat} {j : Int32} {t : Nat → Int32} (hw : zWf w) (hM : mHd w D) (hD : zDok D) (hr : r < 6) (hj : jok D j) (hS : 0 ≤ w.1 168 r) (hs : w.1 168 r = nI (dJ D)) (ht : mturnK w D r (dJ D)) (ha : j = -9 ∨ ¬ w.1 169 (40 * r + j.toNatClampNeg) = nI (dA D j.toNatClampNeg)) (hn : n < 12) (hP : w.1 166 33 = nI n) (hT9 : T ≤ 99) (hT : w.1 166 24 = nI T) (h6t : zT6 D t) (et : ∀ i, i < dJ D → w.1 169 (40 * r + i) = t i) :
    zCi G mX12_pose [.ref 166, .int (nI r), .int j] w (fun a w' => a = nI n ∧ ∃ w5, zFr [179, 180, 181, 184] [] [29] w w5 ∧ (∀ i, i < dJ D → w5.1 184 (6 * n + i) = t i) ∧ (∀ q, q < 6 * n → w5.1 184 q = w.1 184 q) ∧ mFin w5 w' n (jk D t j T) j (nI (jw D t j)) (nI (jm t j) - nI T)) := by
  have h6 := hD.1.2.2
  have hT2 : zT2 D t := fun i hi => (h6t i (by omega)).1
  have hwl := fun (t : Nat → Int32) => Nat.le_trans (zwrL_le (zP D t (-1)) zno) (zP_len hD t (-1))
  have hld := zld_le (fun i hi => (h6t i hi).1)
  have eld : zldo D t (-1) (dJ D) = zld t := zld_o hD (fun i h1 h2 => (h6t i h2).2 h1)
  refine zC_of (lo := [_, _, _, _, _, _, _, _, _]) kcX12_pose (Nat.le_of_ble_eq_true rfl) rfl (fun X hX hE => ?_)
  refine s_X12_pose_144 hX hw hM hD hr hj hS hs ht ha ?_
  have loop : ∀ z i w1, i + z = dJ D → zFr [184] [] [] w w1 → (∀ q, q < i → w1.1 184 (6 * n + q) = t q) → (∀ q, q < 6 * n → w1.1 184 q = w.1 184 q) → zk0 G X mX12_pose 165 [.ref 166, .int (nI r), .int j, .int (zb (mturnK w D r (dJ D))), .int (nI n), .int (nI i), .null, .null, .null] [] w1 := by
    intro z
    induction z with
    | zero =>
      intro i w1 hi hF g1 g2
      obtain rfl : i = dJ D := by omega
      have hw1 := zFr_wf hF hw
      have hM1 := mHd_f hM hF (by decide)
      have hT1 : w1.1 166 24 = nI T := by rw [hF.2.2.2 24 (by decide)]; exact hT
      by_cases h9 : j = -9
      · refine zk_iload hX dX12_pose_165 rfl ?_
        refine zk_aload_n hX dX12_pose_167 rfl ?_
        refine zk_getI hX dX12_pose_168 flX12_199 k_166 z_166 ?_
        rw [hM1.1.2.2]
        refine zk_icmp_ge (tgt := 200) hX dX12_pose_171 (by decide) (fun c171 => ?_) (fun c171 => ?_)
        rotate_left
        · exact absurd (nI_le (Nat.le_refl _) (by omega)) c171
        refine zk_aload_n hX dX12_pose_200 rfl ?_
        refine zk_iload hX dX12_pose_201 rfl ?_
        refine zk_V1vp hX dX12_pose_203 kcX12_layPose mlX12_284 viX12_layPose rfl k_166 z_166 (s_X12_layPose hw1 hM1 hD hn hT2 g1) (Nat.le_of_ble_eq_true rfl) rfl (fun w2 q2 => ?_)
        obtain ⟨k1, k2, k3⟩ := q2
        have hw2 := zFr_wf k1 hw1
        have hM2 := mHd_f hM1 k1 (by decide)
        have hT22 : zT2 D (w2.1 179) := zT2_c hT2 k2
        have ck := s_X12_kindNow (G := G) (T := T) hw2 hM2 hD hT22 (o := -1) (Or.inl rfl) (by rw [zP_c hD k2]; exact k3) (by rw [k1.2.2.2 24 (by decide)]; exact hT1) hT9
        have ct := s_X12_turned (G := G) hw2 hM2 hD hT22 (o := -1) (Or.inl rfl)
        rw [zkd_c hD k2, zkd_k3, eld] at ck
        rw [show zldo D (w2.1 179) (-1) (dJ D) = zldo D t (-1) (dJ D) from zsm_c (fun i hi => by rw [k2 i hi]), eld] at ct
        refine zk_aload_n hX dX12_pose_206 rfl ?_
        refine zk_iconst (v := -1) hX dX12_pose_207 (by decide) ?_
        refine zk_V1i hX dX12_pose_208 kcX12_kindNow mlX12_263 viX12_kindNow rfl k_166 z_166 ck (Nat.le_of_ble_eq_true rfl) rfl ?_
        refine zk_istore (lo' := [_, _, _, _, _, _, _, _, _]) hX dX12_pose_211 (Nat.le_of_ble_eq_true rfl) rfl rfl ?_
        refine zk_aload_n hX dX12_pose_213 rfl ?_
        refine zk_V0i hX dX12_pose_214 kcX12_wrongMany mlX12_245 viX12_wrongMany rfl k_166 z_166 (s_X12_wrongMany hw2 k3 (zP_len hD _ _)) (Nat.le_of_ble_eq_true rfl) rfl ?_
        refine zk_istore (lo' := [_, _, _, _, _, _, _, _, _]) hX dX12_pose_217 (Nat.le_of_ble_eq_true rfl) rfl rfl ?_
        refine zk_aload_n hX dX12_pose_219 rfl ?_
        refine zk_iconst (v := -1) hX dX12_pose_220 (by decide) ?_
        refine zk_V1i hX dX12_pose_221 kcX12_turned mlX12_248 viX12_turned rfl k_166 z_166 ct (Nat.le_of_ble_eq_true rfl) rfl ?_
        refine zk_aload_n hX dX12_pose_224 rfl ?_
        refine zk_getI hX dX12_pose_225 flX12_121 k_166 z_166 ?_
        rw [k1.2.2.2 24 (by decide), hT1]
        refine zk_isub hX dX12_pose_228 ?_
        refine zk_istore (lo' := [_, _, _, _, _, _, _, _, _]) hX dX12_pose_229 (Nat.le_of_ble_eq_true rfl) rfl rfl ?_
        refine zk_iload_n hX dX12_pose_231 rfl ?_
        refine zk_bipush (v := -9) hX dX12_pose_232 (by decide) ?_
        refine zk_icmp_eq (tgt := 306) hX dX12_pose_234 (by decide) (fun c234 => ?_) (fun c234 => ?_)
        rotate_left
        · exact absurd h9 c234
        have eq : jk D t j T = zk3 (zwrL zno (zP D t (-1))) (zld t) T := by
          unfold jk jw jm
          rw [if_pos h9, if_pos h9, if_pos h9]
          rfl
        have e1 : jw D t j = zwrL zno (zP D t (-1)) := if_pos h9
        have e2 : jm t j = zld t := if_pos h9
        rw [eq, e1, e2] at hE
        exact s_X12_pose_306 hX hE hw2 hn (by rw [k1.2.2.2 33 (by decide), hF.2.2.2 33 (by decide)]; exact hP) (fun w' hf => ⟨rfl, w2, zFr_t (zFr_s hF (by decide)) (zFr_s k1 (by decide)), fun i hi => by rw [k1.2.1 184 (by decide) (by decide)]; exact g1 i hi, fun q hq => by rw [k1.2.1 184 (by decide) (by decide)]; exact g2 q hq, hf⟩)
      · obtain ⟨j, hj', rfl⟩ := rn (by omega) (hj.resolve_left h9)
        have hup : t j + 1 ≤ 2 := by
          have ha := ha.resolve_left h9
          rw [nI_clamp (by omega), et j hj'] at ha
          have q := ht j hj'
          rw [et j hj'] at q
          have a2 : nI (dA D j) ≤ 2 := nI_le (b := 2) (hD.2.2.2.2.1 j hj').2.2 (by decide)
          have a3 := (h6t j (by omega)).1
          grind
        have h6u : zT6 D (ztup t j) := fun i hi => by
          unfold ztup
          by_cases g : i = j
          · rw [if_pos g]
            have := (h6t j (by omega)).1
            exact ⟨by grind, fun q => absurd q (by omega)⟩
          · rw [if_neg g]
            exact h6t i hi
        have hT2u : zT2 D (ztup t j) := fun i hi => (h6u i (by omega)).1
        have hldu := zld_le (fun i hi => (h6u i hi).1)
        have eldu : zldo D (ztup t j) (-1) (dJ D) = zld (ztup t j) := zld_o hD (fun i h1 h2 => (h6u i h2).2 h1)
        have eq : jk D t (nI j) T = if 0 < max (zwrL zno (zP D t (-1))) (zwrL zno (zP D (ztup t j) (-1))) then 3 else if T < max (zld t) (zld (ztup t j)) then 2 else 4 := by
          unfold jk jw jm
          rw [if_neg h9, if_neg h9, if_neg h9, nI_clamp (by omega)]
        have e1 : jw D t (nI j) = max (zwrL zno (zP D t (-1))) (zwrL zno (zP D (ztup t j) (-1))) := by
          unfold jw
          rw [if_neg h9, nI_clamp (by omega)]
        have e2 : jm t (nI j) = max (zld t) (zld (ztup t j)) := by
          unfold jm
          rw [if_neg h9, nI_clamp (by omega)]
        rw [eq, e1, e2, ← zk3_1] at hE
        refine zk_iload hX dX12_pose_165 rfl ?_
        refine zk_aload_n hX dX12_pose_167 rfl ?_
        refine zk_getI hX dX12_pose_168 flX12_199 k_166 z_166 ?_
        rw [hM1.1.2.2]
        refine zk_icmp_ge (tgt := 200) hX dX12_pose_171 (by decide) (fun c171 => ?_) (fun c171 => ?_)
        rotate_left
        · exact absurd (nI_le (Nat.le_refl _) (by omega)) c171
        refine zk_aload_n hX dX12_pose_200 rfl ?_
        refine zk_iload hX dX12_pose_201 rfl ?_
        refine zk_V1vp hX dX12_pose_203 kcX12_layPose mlX12_284 viX12_layPose rfl k_166 z_166 (s_X12_layPose hw1 hM1 hD hn hT2 g1) (Nat.le_of_ble_eq_true rfl) rfl (fun w2 q2 => ?_)
        obtain ⟨k1, k2, k3⟩ := q2
        have hw2 := zFr_wf k1 hw1
        have hM2 := mHd_f hM1 k1 (by decide)
        have hT22 : zT2 D (w2.1 179) := zT2_c hT2 k2
        have hTT : w2.1 166 24 = nI T := (by rw [k1.2.2.2 24 (by decide)]; exact hT1)
        have ck := s_X12_kindNow (G := G) (T := T) hw2 hM2 hD hT22 (o := -1) (Or.inl rfl) (by rw [zP_c hD k2]; exact k3) hTT hT9
        have ct := s_X12_turned (G := G) hw2 hM2 hD hT22 (o := -1) (Or.inl rfl)
        rw [zkd_c hD k2, zkd_k3, eld] at ck
        rw [show zldo D (w2.1 179) (-1) (dJ D) = zldo D t (-1) (dJ D) from zsm_c (fun i hi => by rw [k2 i hi]), eld] at ct
        refine zk_aload_n hX dX12_pose_206 rfl ?_
        refine zk_iconst (v := -1) hX dX12_pose_207 (by decide) ?_
        refine zk_V1i hX dX12_pose_208 kcX12_kindNow mlX12_263 viX12_kindNow rfl k_166 z_166 ck (Nat.le_of_ble_eq_true rfl) rfl ?_
        refine zk_istore (lo' := [_, _, _, _, _, _, _, _, _]) hX dX12_pose_211 (Nat.le_of_ble_eq_true rfl) rfl rfl ?_
        refine zk_aload_n hX dX12_pose_213 rfl ?_
        refine zk_V0i hX dX12_pose_214 kcX12_wrongMany mlX12_245 viX12_wrongMany rfl k_166 z_166 (s_X12_wrongMany hw2 k3 (zP_len hD _ _)) (Nat.le_of_ble_eq_true rfl) rfl ?_
        refine zk_istore (lo' := [_, _, _, _, _, _, _, _, _]) hX dX12_pose_217 (Nat.le_of_ble_eq_true rfl) rfl rfl ?_
        refine zk_aload_n hX dX12_pose_219 rfl ?_
        refine zk_iconst (v := -1) hX dX12_pose_220 (by decide) ?_
        refine zk_V1i hX dX12_pose_221 kcX12_turned mlX12_248 viX12_turned rfl k_166 z_166 ct (Nat.le_of_ble_eq_true rfl) rfl ?_
        refine zk_aload_n hX dX12_pose_224 rfl ?_
        refine zk_getI hX dX12_pose_225 flX12_121 k_166 z_166 ?_
        rw [hTT]
        refine zk_isub hX dX12_pose_228 ?_
        refine zk_istore (lo' := [_, _, _, _, _, _, _, _, _]) hX dX12_pose_229 (Nat.le_of_ble_eq_true rfl) rfl rfl ?_
        refine zk_iload_n hX dX12_pose_231 rfl ?_
        refine zk_bipush (v := -9) hX dX12_pose_232 (by decide) ?_
        refine zk_icmp_eq (tgt := 306) hX dX12_pose_234 (by decide) (fun c234 => ?_) (fun c234 => ?_)
        · exact absurd c234 h9
        refine zk_aload_n hX dX12_pose_237 rfl ?_
        refine zk_getR hX dX12_pose_238 flX12_47 k_166 z_166 (hw2 _ _ (by decide) |>.trans r_166_28) ?_
        refine zk_iload_n hX dX12_pose_241 rfl ?_
        refine zk_dup2 hX dX12_pose_242 rfl rfl ?_
        refine zk_ialdE hX dX12_pose_243 rfl k_179 z_179 (by first | assumption | omega) rfl ?_
        rw [k2 j hj']
        refine zk_iconst (v := 1) hX dX12_pose_244 (by decide) ?_
        refine zk_iadd hX dX12_pose_245 ?_
        refine zk_iastE hX dX12_pose_246 rfl k_179 z_179 (by first | assumption | omega) rfl ?_
        have k2' : ∀ i, i < dJ D → (zsi w2 179 j (t j + 1)).1 179 i = ztup t j i := fun i hi => by
          rw [zsi_1]
          unfold ztup
          by_cases g : i = j
          · rw [if_pos ⟨rfl, g⟩, if_pos g]
          · rw [if_neg (fun z => g z.2), if_neg g]
            exact k2 i hi
        have hFj : zFr [179] [] [] w2 (zsi w2 179 j (t j + 1)) := zFr_i (by decide) (by decide)
        refine s_X12_pose_247 hX hE (zWf_i hw2) (mHd_f hM2 hFj (by decide)) hD hn (by rw [zsi_o (by decide), k1.2.2.2 33 (by decide), hF.2.2.2 33 (by decide)]; exact hP) hT9 (by rw [zsi_o (by decide)]; exact hTT) h6u k2' (by have := hwl t; omega) (by omega) (fun w5 w' k5 hf => ?_)
        exact ⟨rfl, w5, zFr_t (zFr_t (zFr_s hF (by decide)) (zFr_s k1 (by decide))) (zFr_t (zFr_s hFj (by decide)) (zFr_s k5 (by decide))), fun i hi => by rw [k5.2.1 184 (by decide) (by decide), zsi_o (by decide), k1.2.1 184 (by decide) (by decide)]; exact g1 i hi, fun q hq => by rw [k5.2.1 184 (by decide) (by decide), zsi_o (by decide), k1.2.1 184 (by decide) (by decide)]; exact g2 q hq, hf⟩
    | succ z ih =>
      intro i w1 hi hF g1 g2
      have hw1 := zFr_wf hF hw
      have hM1 := mHd_f hM hF (by decide)
      refine zk_iload hX dX12_pose_165 rfl ?_
      refine zk_aload_n hX dX12_pose_167 rfl ?_
      refine zk_getI hX dX12_pose_168 flX12_199 k_166 z_166 ?_
      rw [hM1.1.2.2]
      refine zk_icmp_ge (tgt := 200) hX dX12_pose_171 (by decide) (fun c171 => ?_) (fun c171 => ?_)
      · exact absurd c171 (nI_ge (by omega) (by omega))
      refine zk_aload_n hX dX12_pose_174 rfl ?_
      refine zk_getR hX dX12_pose_175 flX12_62 k_166 z_166 (hw1 _ _ (by decide) |>.trans r_166_35) ?_
      refine zk_bipush (v := 6) hX dX12_pose_178 (by decide) ?_
      refine zk_iload hX dX12_pose_180 rfl ?_
      refine zk_imul hX dX12_pose_182 ?_
      refine zk_iload hX dX12_pose_183 rfl ?_
      refine zk_iadd hX dX12_pose_185 ?_
      refine zk_aload_n hX dX12_pose_186 rfl ?_
      refine zk_iload_n hX dX12_pose_187 rfl ?_
      refine zk_iload hX dX12_pose_188 rfl ?_
      refine zk_V2i hX dX12_pose_190 kcX12_rowAt mlX12_149 viX12_rowAt rfl k_166 z_166 (s_X12_rowAt hw1 (by omega)) (Nat.le_of_ble_eq_true rfl) rfl ?_
      rw [hF.2.1 169 (by decide) (by decide), et i (by omega)]
      refine zk_iastE hX dX12_pose_193 (nI_addE (nI_mulE (nI_k 6 rfl) rfl) rfl) k_184 z_184 (by first | assumption | omega) rfl ?_
      refine zk_iinc (lo' := [_, _, _, _, _, _, _, _, _]) hX dX12_pose_194 rfl (by first | exact zinc _ | exact rfl) (Nat.le_of_ble_eq_true rfl) rfl rfl ?_
      refine zk_goto (tgt := 165) hX dX12_pose_197 (by decide) ?_
      refine ih (i + 1) _ (by omega) (zFr_t hF (zFr_i (by decide) (by decide))) (fun q hq => ?_) (fun q hq => ?_)
      · rw [zsi_1]
        by_cases e : q = i
        · subst e
          rw [if_pos ⟨rfl, rfl⟩]
        · rw [if_neg (by omega)]
          exact g1 q (by omega)
      · rw [zsi_1, if_neg (by omega)]
        exact g2 q hq
  refine zk_aload_n hX dX12_pose_144 rfl ?_
  refine zk_getI hX dX12_pose_145 flX12_202 k_166 z_166 ?_
  rw [hP]
  refine zk_bipush (v := 12) hX dX12_pose_148 (by decide) ?_
  refine zk_icmp_ne (tgt := 156) hX dX12_pose_150 (by decide) (fun c150 => ?_) (fun c150 => ?_)
  rotate_left
  · exact absurd (nI_inj (a := n) (b := 12) (by omega) (by decide) c150) (by omega)
  refine zk_aload_n hX dX12_pose_156 rfl ?_
  refine zk_getI hX dX12_pose_157 flX12_202 k_166 z_166 ?_
  rw [hP]
  refine zk_istore (lo' := [_, _, _, _, _, _, _, _, _]) hX dX12_pose_160 (Nat.le_of_ble_eq_true rfl) rfl rfl ?_
  refine zk_iconst (v := 0) hX dX12_pose_162 (by decide) ?_
  refine zk_istore (lo' := [_, _, _, _, _, _, _, _, _]) hX dX12_pose_163 (Nat.le_of_ble_eq_true rfl) rfl rfl ?_
  exact loop (dJ D) 0 w (by omega) zFr_r (fun q hq => absurd hq (by omega)) (fun _ _ => rfl)
