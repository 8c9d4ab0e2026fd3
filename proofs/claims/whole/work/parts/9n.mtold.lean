/-! order: what the model tells -/
theorem oV_m {E : Nat → Nat → Prop} {O : Nat → Bool} {c : Nat → Nat} {W : Nat → Nat → Option Nat} {T U : Nat → Nat → Nat} {s : Nat} (hW : ∀ i k, oWd E O c i k (W i k)) (h : oRec s (oB W) T 0) (h' : oRec2 s W U 0) : oMin (fun i => (W i i).isSome) (fun i => U (1 <<< i) i) s = oV s (oB W) T 0 none := by
  refine oMin_e (fun x hx => ?_)
  have hb : oP 0 x = true := by unfold oP; simp
  rw [if_pos hb]
  have hgt := oAdd_gt (oP_t.mp hb)
  have hle := oAdd_le (s := s) (Nat.zero_le _) hx
  have eg : oG (oB W) T 0 none x = T (0 ||| 1 <<< x) x := by
    show 0 + T (0 ||| 1 <<< x) x = _
    omega
  rw [eg, Nat.zero_or]
  rw [Nat.zero_or] at hgt hle
  rcases oWd_d (hW x x) with ⟨h1, e⟩ | ⟨h1, e⟩
  · rw [if_pos (by rw [e]; rfl), oRec_eq hW h h' (oAll s - 1 <<< x) (1 <<< x) x (by omega) (by omega) hx h1]
  · rw [if_neg (by rw [e]; decide), oRec_un hW h (by omega) hle hx h1]
    rfl
theorem s_X12_orderTold {G : zG} {w : zW} {s r : Nat} {E : Nat → Nat → Prop} {O : Nat → Bool} {c : Nat → Nat} {W : Nat → Nat → Option Nat} {T U : Nat → Nat → Nat} {st : Nat → Nat} (hw : zWf w) (hr : r < 6) (hs8 : s ≤ 8) (hs : w.1 166 49 = nI s) (hWd : ∀ i k, oWd E O c i k (W i k)) (hW : ∀ i k, i < s → k < s → w.1 198 (8 * i + k) = zoe (W i k) ∧ ∀ m, W i k = some m → m < 4096) (hR : oRec s (oB W) T 0) (hR2 : oRec2 s W U 0) (hC : ∀ d, 0 < d → d ≤ oAll s → ∀ l, l < s → w.1 199 (8 * d + l) = nI (U d l)) (hst : ∀ i, i < s → w.1 197 i = nI (st i))
    (hXs : oV s (oB W) T 0 none < 1000000 → ∃ X, oSeq s (oB W) T X s) :
    zCi G mX12_orderTold [.ref 166, .int (nI r)] w (fun a w' => (¬ oV s (oB W) T 0 none < 1000000 ∧ a = -9 ∧ w' = w) ∨ (oV s (oB W) T 0 none < 1000000 ∧ a = nI (oV s (oB W) T 0 none) ∧ ∀ X, oSeq s (oB W) T X s → mRowW w r s (fun i => nI (st (X i))) w')) := by
  have hs9 := oAll_8 hs8
  have eL : (1000000 : Int32) = nI 1000000 := rfl
  have eA := oV_m hWd hR hR2
  have hB : ∀ i k, i < s → k < s → oB W i k ≤ 1000000 := fun i k hi hk => by
    unfold oB
    cases e : W i k with
    | none => exact Nat.le_refl _
    | some m =>
      have := (hW i k hi hk).2 m e
      show m ≤ 1000000
      omega
  have hV := oMin_le (fun i => (W i i).isSome) (fun i => U (1 <<< i) i) s
  rw [eA] at hV
  have uniq : ∀ X Y : Nat → Nat, oSeq s (oB W) T X s → oSeq s (oB W) T Y s → ∀ n, n ≤ s → ∀ i, i < n → X i = Y i := by
    intro X Y h1 h2 n
    induction n with
    | zero => intro _ i hi; exact absurd hi (by omega)
    | succ n ih =>
      intro hn i hi
      have ih' := ih (by omega)
      rcases Nat.lt_succ_iff_lt_or_eq.mp hi with g | rfl
      · exact ih' i g
      · have a1 := h1 i (by omega)
        have a2 := h2 i (by omega)
        have e1 : oSet X i = oSet Y i := oSet_c ih'
        have e2 : oLast X i = oLast Y i := by
          cases i with
          | zero => rfl
          | succ i => show some (X i) = some (Y i); rw [ih' i (by omega)]
        rw [e1, e2] at a1
        rcases Nat.lt_trichotomy (X i) (Y i) with g | g | g
        · exact absurd a1.2.1 (a2.2.2 _ g)
        · exact g
        · exact absurd a2.2.1 (a1.2.2 _ g)
  refine zC_of (lo := [_, _, _, _, _, _, _, _]) kcX12_orderTold (Nat.le_of_ble_eq_true rfl) rfl (fun X hX hE => ?_)
  have told : ∀ Y, oV s (oB W) T 0 none < 1000000 → oSeq s (oB W) T Y s → ∀ m n w1 (left : Int32) (a7 : Value), n + m = s → (n < s → left = nI (oV s (oB W) T (oSet Y n) (oLast Y n))) → zFr [168, 169] [] [] w w1 → (∀ i, i ≠ r → w1.1 168 i = w.1 168 i) → w1.1 168 r = nI s → (∀ i, i < 40 * r ∨ 40 * r + 40 ≤ i → w1.1 169 i = w.1 169 i) → (∀ i, i < n → w1.1 169 (40 * r + i) = nI (st (Y i))) → zk0 G X mX12_orderTold 99 [.ref 166, .int (nI r), .int (nI (oV s (oB W) T 0 none)), .int (nI (oSet Y n)), .int (zoe (oLast Y n)), .int left, .int (nI n), a7] [] w1 := by
    intro Y hVl hS m
    induction m with
    | zero =>
      intro n w1 left a7 hn hl hF r1 r2 r3 r4
      obtain rfl : n = s := by omega
      have hw1 := zFr_wf hF hw
      refine zk_iload hX dX12_orderTold_99 rfl ?_
      refine zk_aload_n hX dX12_orderTold_101 rfl ?_
      refine zk_getI hX dX12_orderTold_102 flX12_368 k_166 z_166 ?_
      refine zk_icmp_ge (tgt := 278) hX dX12_orderTold_105 (by decide) (fun c105 => ?_) (fun c105 => ?_)
      rotate_left
      · exact absurd (by rw [hF.2.2.2 49 (by decide), hs]; exact nI_le (Nat.le_refl _) (by omega)) c105
      refine zk_iload_n hX dX12_orderTold_278 rfl ?_
      refine zk_iret hX hE rfl ⟨rfl, rfl⟩ dX12_orderTold_279 ⟨_, rfl, ?_⟩
      refine Or.inr ⟨hVl, rfl, fun Z hZ => ⟨hF, r1, r2, r3, fun i hi => ?_⟩⟩
      show _ = nI (st (Z i))
      rw [r4 i hi, uniq Z Y hZ hS n (Nat.le_refl _) i hi]
    | succ m ih =>
      intro n w1 left a7 hn hl hF r1 r2 r3 r4
      have hns : n < s := by omega
      have hw1 := zFr_wf hF hw
      have hs1 : w1.1 166 49 = nI s := by rw [hF.2.2.2 49 (by decide)]; exact hs
      have hSn : oSeq s (oB W) T Y n := fun i hi => hS i (by omega)
      have hSn1 : oSeq s (oB W) T Y (n + 1) := fun i hi => hS i (by omega)
      have hcnt := oSet_cnt (X := Y) (s := s) (n := n) (fun i hi => ⟨(hSn i hi).1, (oPick_t.mp (hSn i hi).2.1).1⟩)
      have hlast : ∀ l, oLast Y n = some l → l < s := fun l hl => by
        cases n with
        | zero => cases hl
        | succ n =>
          cases hl
          exact (hSn n (by omega)).1
      have hlt := oSeq_lt hR hVl hSn hns
      have hx := hS n hns
      have hpk := oPick_t.mp hx.2.1
      have hstep := oSeq_step hSn1
      have hnext : n + 1 < s → oV s (oB W) T (oSet Y (n + 1)) (oLast Y (n + 1)) = T (oSet Y (n + 1)) (Y n) := fun z => oSeq_next hR hSn1 z
      rw [hl hns]
      have hx8 := hx.1
      have e198 : ∀ i k, i < s → k < s → w1.1 198 (8 * i + k) = zoe (W i k) := fun i k hi hk => by rw [hF.2.1 198 (by decide) (by decide)]; exact (hW i k hi hk).1
      have e9 : ∀ i, i < s → w1.1 198 (9 * i) = zoe (W i i) := fun i hi => by rw [show 9 * i = 8 * i + i by omega]; exact e198 i i hi hi
      have e199 : ∀ x, x < s → (oSet Y n).testBit x = false → w1.1 199 (8 * (oSet Y n ||| 1 <<< x) + x) = nI (U (oSet Y n ||| 1 <<< x) x) ∧ U (oSet Y n ||| 1 <<< x) x ≤ 1000000 ∧ oSet Y n ||| 1 <<< x ≤ oAll s := fun x hx hb => ⟨by rw [hF.2.1 199 (by decide) (by decide)]; exact hC _ (by have := oAdd_gt hb; omega) (oAdd_le hcnt.2 hx) x hx, oRec2_le hR2 (by have := oAdd_gt hb; omega) (oAdd_le hcnt.2 hx) hx, oAdd_le hcnt.2 hx⟩
      have eUT : ∀ x, x < s → (oSet Y n).testBit x = false → O (c x) = true → U (oSet Y n ||| 1 <<< x) x = T (oSet Y n ||| 1 <<< x) x := fun x hx hb hO => oRec_eq hWd hR hR2 (oAll s - (oSet Y n ||| 1 <<< x)) _ x (by have := oAdd_le (s := s) hcnt.2 hx; omega) (by have := oAdd_gt hb; omega) hx hO
      have e1O : (1 : Int32) = nI 1 := rfl
      -- a pick
      have picked : ∀ (t : Nat), oBo (oB W) (oLast Y n) (Y n) = t → (oLast Y n = none → t = 0) → (∀ l, oLast Y n = some l → W l (Y n) = some t) → zk0 G X mX12_orderTold 213 [.ref 166, .int (nI r), .int (nI (oV s (oB W) T 0 none)), .int (nI (oSet Y n)), .int (zoe (oLast Y n)), .int (nI (oV s (oB W) T (oSet Y n) (oLast Y n))), .int (nI n), .int (nI (Y n))] [] w1 := by
        intro t ht t1 t2
        have hle : t ≤ oV s (oB W) T (oSet Y n) (oLast Y n) := by rw [← hstep, ht]; omega
        have e197 : w1.1 197 (Y n) = nI (st (Y n)) := by rw [hF.2.1 197 (by decide) (by decide)]; exact hst _ hx8
        have nx : ∀ q : Int32, q = nI t → zk0 G X mX12_orderTold 99 [.ref 166, .int (nI r), .int (nI (oV s (oB W) T 0 none)), .int (nI (oSet Y (n + 1))), .int (zoe (oLast Y (n + 1))), .int (nI (oV s (oB W) T (oSet Y n) (oLast Y n)) - q), .int (nI (n + 1)), .int (nI (Y n))] [] (zsi w1 169 (40 * r + n) (nI (st (Y n)))) := by
          intro q hq
          refine ih (n + 1) _ _ _ (by omega) (fun z => ?_) (zFr_t hF (zFr_i (by decide) (by decide))) (fun i hi => by rw [zsi_o (by decide)]; exact r1 i hi) (by rw [zsi_o (by decide)]; exact r2) (fun i hi => by rw [zsi_1, if_neg (by omega)]; exact r3 i hi) (fun i hi => ?_)
          · rw [hq, nI_sub hle, hnext z]
            congr 1
            omega
          · rw [zsi_1]
            by_cases g : i = n
            · rw [if_pos ⟨rfl, by omega⟩, g]
            · rw [if_neg (by omega)]
              exact r4 i (by omega)
        cases el : oLast Y n with
        | none =>
          have t0 := t1 el
          rw [el] at nx
          refine zk_iload hX dX12_orderTold_213 rfl ?_
          refine zk_iload hX dX12_orderTold_215 rfl ?_
          refine zk_bipush (v := -9) hX dX12_orderTold_217 (by decide) ?_
          refine zk_icmp_ne (tgt := 226) hX dX12_orderTold_219 (by decide) (fun c219 => ?_) (fun c219 => ?_)
          · exact absurd c219 (fun z => z rfl)
          refine zk_iconst (v := 0) hX dX12_orderTold_222 (by decide) ?_
          refine zk_goto (tgt := 239) hX dX12_orderTold_223 (by decide) ?_
          refine zk_isub hX dX12_orderTold_239 ?_
          refine zk_istore (lo' := [_, _, _, _, _, _, _, _]) hX dX12_orderTold_240 (Nat.le_of_ble_eq_true rfl) rfl rfl ?_
          refine zk_iload_n hX dX12_orderTold_242 rfl ?_
          refine zk_iconst (v := 1) hX dX12_orderTold_243 (by decide) ?_
          rw [e1O]
          refine zk_iload hX dX12_orderTold_244 rfl ?_
          refine zk_ishl hX dX12_orderTold_246 ?_
          rw [nI_shl _ (by omega)]
          refine zk_ior hX dX12_orderTold_247 ?_
          rw [nI_or]
          refine zk_istore_n (lo' := [_, _, _, _, _, _, _, _]) hX dX12_orderTold_248 (Nat.le_of_ble_eq_true rfl) rfl rfl ?_
          refine zk_iload hX dX12_orderTold_249 rfl ?_
          refine zk_istore (lo' := [_, _, _, _, _, _, _, _]) hX dX12_orderTold_251 (Nat.le_of_ble_eq_true rfl) rfl rfl ?_
          refine zk_aload_n hX dX12_orderTold_253 rfl ?_
          refine zk_getR hX dX12_orderTold_254 flX12_16 k_166 z_166 (hw1 _ _ (by decide) |>.trans r_166_6) ?_
          refine zk_bipush (v := 40) hX dX12_orderTold_257 (by decide) ?_
          refine zk_iload_n hX dX12_orderTold_259 rfl ?_
          refine zk_imul hX dX12_orderTold_260 ?_
          refine zk_iload hX dX12_orderTold_261 rfl ?_
          refine zk_iadd hX dX12_orderTold_263 ?_
          refine zk_aload_n hX dX12_orderTold_264 rfl ?_
          refine zk_getR hX dX12_orderTold_265 flX12_102 k_166 z_166 (hw1 _ _ (by decide) |>.trans r_166_50) ?_
          refine zk_iload hX dX12_orderTold_268 rfl ?_
          refine zk_ialdE hX dX12_orderTold_270 rfl k_197 z_197 (by first | assumption | omega) rfl ?_
          rw [e197]
          refine zk_iastE hX dX12_orderTold_271 (nI_addE (nI_mulE (nI_k 40 rfl) rfl) rfl) k_169 z_169 (by first | assumption | omega) rfl ?_
          refine zk_iinc (lo' := [_, _, _, _, _, _, _, _]) hX dX12_orderTold_272 rfl (by first | exact zinc _ | exact rfl) (Nat.le_of_ble_eq_true rfl) rfl rfl ?_
          refine zk_goto (tgt := 99) hX dX12_orderTold_275 (by decide) ?_
          exact nx 0 (by rw [t0]; rfl)
        | some l =>
          have hl8 := hlast l el
          have t3 := t2 l el
          rw [el] at nx
          have e8 := e198 l (Y n) hl8 hx8
          rw [t3] at e8
          refine zk_iload hX dX12_orderTold_213 rfl ?_
          refine zk_iload hX dX12_orderTold_215 rfl ?_
          refine zk_bipush (v := -9) hX dX12_orderTold_217 (by decide) ?_
          refine zk_icmp_ne (tgt := 226) hX dX12_orderTold_219 (by decide) (fun c219 => ?_) (fun c219 => ?_)
          rotate_left
          · exact absurd c219 (nI_n9 (by omega))
          refine zk_aload_n hX dX12_orderTold_226 rfl ?_
          refine zk_getR hX dX12_orderTold_227 flX12_105 k_166 z_166 (hw1 _ _ (by decide) |>.trans r_166_51) ?_
          refine zk_bipush (v := 8) hX dX12_orderTold_230 (by decide) ?_
          refine zk_iload hX dX12_orderTold_232 rfl ?_
          refine zk_imul hX dX12_orderTold_234 ?_
          refine zk_iload hX dX12_orderTold_235 rfl ?_
          refine zk_iadd hX dX12_orderTold_237 ?_
          refine zk_ialdE hX dX12_orderTold_238 (nI_addE (nI_mulE (nI_k 8 rfl) rfl) rfl) k_198 z_198 (by first | assumption | omega) rfl ?_
          rw [e8]
          refine zk_isub hX dX12_orderTold_239 ?_
          refine zk_istore (lo' := [_, _, _, _, _, _, _, _]) hX dX12_orderTold_240 (Nat.le_of_ble_eq_true rfl) rfl rfl ?_
          refine zk_iload_n hX dX12_orderTold_242 rfl ?_
          refine zk_iconst (v := 1) hX dX12_orderTold_243 (by decide) ?_
          rw [e1O]
          refine zk_iload hX dX12_orderTold_244 rfl ?_
          refine zk_ishl hX dX12_orderTold_246 ?_
          rw [nI_shl _ (by omega)]
          refine zk_ior hX dX12_orderTold_247 ?_
          rw [nI_or]
          refine zk_istore_n (lo' := [_, _, _, _, _, _, _, _]) hX dX12_orderTold_248 (Nat.le_of_ble_eq_true rfl) rfl rfl ?_
          refine zk_iload hX dX12_orderTold_249 rfl ?_
          refine zk_istore (lo' := [_, _, _, _, _, _, _, _]) hX dX12_orderTold_251 (Nat.le_of_ble_eq_true rfl) rfl rfl ?_
          refine zk_aload_n hX dX12_orderTold_253 rfl ?_
          refine zk_getR hX dX12_orderTold_254 flX12_16 k_166 z_166 (hw1 _ _ (by decide) |>.trans r_166_6) ?_
          refine zk_bipush (v := 40) hX dX12_orderTold_257 (by decide) ?_
          refine zk_iload_n hX dX12_orderTold_259 rfl ?_
          refine zk_imul hX dX12_orderTold_260 ?_
          refine zk_iload hX dX12_orderTold_261 rfl ?_
          refine zk_iadd hX dX12_orderTold_263 ?_
          refine zk_aload_n hX dX12_orderTold_264 rfl ?_
          refine zk_getR hX dX12_orderTold_265 flX12_102 k_166 z_166 (hw1 _ _ (by decide) |>.trans r_166_50) ?_
          refine zk_iload hX dX12_orderTold_268 rfl ?_
          refine zk_ialdE hX dX12_orderTold_270 rfl k_197 z_197 (by first | assumption | omega) rfl ?_
          rw [e197]
          refine zk_iastE hX dX12_orderTold_271 (nI_addE (nI_mulE (nI_k 40 rfl) rfl) rfl) k_169 z_169 (by first | assumption | omega) rfl ?_
          refine zk_iinc (lo' := [_, _, _, _, _, _, _, _]) hX dX12_orderTold_272 rfl (by first | exact zinc _ | exact rfl) (Nat.le_of_ble_eq_true rfl) rfl rfl ?_
          refine zk_goto (tgt := 99) hX dX12_orderTold_275 (by decide) ?_
          exact nx _ rfl
      have search : ∀ z i, i + z = Y n → zk0 G X mX12_orderTold 111 [.ref 166, .int (nI r), .int (nI (oV s (oB W) T 0 none)), .int (nI (oSet Y n)), .int (zoe (oLast Y n)), .int (nI (oV s (oB W) T (oSet Y n) (oLast Y n))), .int (nI n), .int (nI i)] [] w1 := by
        intro z
        induction z with
        | zero =>
          intro i hi
          obtain rfl : i = Y n := by omega
          have hb := hpk.1
          have ch := s_X12_has (G := G) (w := w1) (d := oSet Y n) (x := Y n) (by omega) (by omega)
          obtain ⟨u1, u2, u3⟩ := e199 (Y n) hx8 hb
          have hTl : T (oSet Y n ||| 1 <<< Y n) (Y n) < 1000000 := by
            have : oBo (oB W) (oLast Y n) (Y n) + T (oSet Y n ||| 1 <<< Y n) (Y n) = oV s (oB W) T (oSet Y n) (oLast Y n) := hstep
            omega
          have hO : O (c (Y n)) = true := by
            rcases Decidable.em (O (c (Y n)) = true) with g | g
            · exact g
            · have := oRec_un hWd hR (d := oSet Y n ||| 1 <<< Y n) (by have := oAdd_gt hb; omega) (oAdd_le hcnt.2 hx8) hx8 g
              omega
          have eD : W (Y n) (Y n) = some 0 := by
            rcases oWd_d (hWd (Y n) (Y n)) with ⟨_, g⟩ | ⟨g, _⟩
            · exact g
            · exact absurd hO g
          have eD9 := e9 (Y n) hx8
          rw [eD] at eD9
          have eUT' := eUT (Y n) hx8 hb hO
          rw [eUT'] at u1
          cases el : oLast Y n with
          | none =>
            have hs0 : T (oSet Y n ||| 1 <<< Y n) (Y n) = oV s (oB W) T (oSet Y n) (oLast Y n) := by
              have : oBo (oB W) (oLast Y n) (Y n) + T (oSet Y n ||| 1 <<< Y n) (Y n) = oV s (oB W) T (oSet Y n) (oLast Y n) := hstep
              rw [el] at this ⊢
              have h0 : oBo (oB W) none (Y n) = 0 := rfl
              omega
            have pk := picked 0 (by rw [el]; rfl) (fun _ => rfl) (fun l hl => by rw [el] at hl; cases hl)
            rw [el] at pk hs0
            refine zk_iload_n hX dX12_orderTold_111 rfl ?_
            refine zk_iload hX dX12_orderTold_112 rfl ?_
            refine zk_S2i hX dX12_orderTold_114 kcX12_has mlX12_372 smX12_has rfl ch (Nat.le_of_ble_eq_true rfl) rfl ?_
            refine zk_if_neB (tgt := 207) hX dX12_orderTold_117 (by decide) (fun c117 => ?_) (fun c117 => ?_)
            · exact absurd c117 (by rw [hb]; decide)
            refine zk_iload hX dX12_orderTold_120 rfl ?_
            refine zk_bipush (v := -9) hX dX12_orderTold_122 (by decide) ?_
            refine zk_icmp_eq (tgt := 145) hX dX12_orderTold_124 (by decide) (fun c124 => ?_) (fun c124 => ?_)
            rotate_left
            · exact absurd rfl c124
            refine zk_aload_n hX dX12_orderTold_145 rfl ?_
            refine zk_getR hX dX12_orderTold_146 flX12_105 k_166 z_166 (hw1 _ _ (by decide) |>.trans r_166_51) ?_
            refine zk_bipush (v := 9) hX dX12_orderTold_149 (by decide) ?_
            refine zk_iload hX dX12_orderTold_151 rfl ?_
            refine zk_imul hX dX12_orderTold_153 ?_
            refine zk_ialdE hX dX12_orderTold_154 (nI_mulE (nI_k 9 rfl) rfl) k_198 z_198 (by first | assumption | omega) rfl ?_
            rw [eD9]
            refine zk_bipush (v := -9) hX dX12_orderTold_155 (by decide) ?_
            refine zk_icmp_eq (tgt := 207) hX dX12_orderTold_157 (by decide) (fun c157 => ?_) (fun c157 => ?_)
            · exact absurd c157 (by decide)
            refine zk_iload hX dX12_orderTold_160 rfl ?_
            refine zk_bipush (v := -9) hX dX12_orderTold_162 (by decide) ?_
            refine zk_icmp_ne (tgt := 171) hX dX12_orderTold_164 (by decide) (fun c164 => ?_) (fun c164 => ?_)
            · exact absurd c164 (fun z => z rfl)
            refine zk_iconst (v := 0) hX dX12_orderTold_167 (by decide) ?_
            refine zk_goto (tgt := 184) hX dX12_orderTold_168 (by decide) ?_
            refine zk_aload_n hX dX12_orderTold_184 rfl ?_
            refine zk_getR hX dX12_orderTold_185 flX12_108 k_166 z_166 (hw1 _ _ (by decide) |>.trans r_166_52) ?_
            refine zk_bipush (v := 8) hX dX12_orderTold_188 (by decide) ?_
            refine zk_iload_n hX dX12_orderTold_190 rfl ?_
            refine zk_iconst (v := 1) hX dX12_orderTold_191 (by decide) ?_
            rw [e1O]
            refine zk_iload hX dX12_orderTold_192 rfl ?_
            refine zk_ishl hX dX12_orderTold_194 ?_
            rw [nI_shl _ (by omega)]
            refine zk_ior hX dX12_orderTold_195 ?_
            rw [nI_or]
            refine zk_imul hX dX12_orderTold_196 ?_
            refine zk_iload hX dX12_orderTold_197 rfl ?_
            refine zk_iadd hX dX12_orderTold_199 ?_
            refine zk_ialdE hX dX12_orderTold_200 (nI_addE (nI_mulE (nI_k 8 rfl) rfl) rfl) k_199 z_199 (by first | assumption | omega) rfl ?_
            rw [u1]
            refine zk_iadd hX dX12_orderTold_201 ?_
            rw [Int32.zero_add, hs0]
            refine zk_iload hX dX12_orderTold_202 rfl ?_
            refine zk_icmp_eq (tgt := 213) hX dX12_orderTold_204 (by decide) (fun c204 => ?_) (fun c204 => ?_)
            rotate_left
            · exact absurd rfl c204
            exact pk
          | some l =>
            have hl8 := hlast l el
            have hs0 : oB W l (Y n) + T (oSet Y n ||| 1 <<< Y n) (Y n) = oV s (oB W) T (oSet Y n) (oLast Y n) := by
              have : oBo (oB W) (oLast Y n) (Y n) + T (oSet Y n ||| 1 <<< Y n) (Y n) = oV s (oB W) T (oSet Y n) (oLast Y n) := hstep
              rw [el] at this ⊢
              exact this
            cases ew : W l (Y n) with
            | none =>
              exfalso
              have : oB W l (Y n) = 1000000 := by unfold oB; rw [ew]; rfl
              omega
            | some t =>
              have et : oB W l (Y n) = t := by unfold oB; rw [ew]; rfl
              have ht9 := (hW l (Y n) hl8 hx8).2 t ew
              have e8 := e198 l (Y n) hl8 hx8
              rw [ew] at e8
              have pk := picked t (by rw [el]; exact et) (fun z => by rw [el] at z; cases z) (fun l' hl' => by rw [el] at hl'; cases hl'; exact ew)
              rw [el] at pk hs0
              rw [et] at hs0
              refine zk_iload_n hX dX12_orderTold_111 rfl ?_
              refine zk_iload hX dX12_orderTold_112 rfl ?_
              refine zk_S2i hX dX12_orderTold_114 kcX12_has mlX12_372 smX12_has rfl ch (Nat.le_of_ble_eq_true rfl) rfl ?_
              refine zk_if_neB (tgt := 207) hX dX12_orderTold_117 (by decide) (fun c117 => ?_) (fun c117 => ?_)
              · exact absurd c117 (by rw [hb]; decide)
              refine zk_iload hX dX12_orderTold_120 rfl ?_
              refine zk_bipush (v := -9) hX dX12_orderTold_122 (by decide) ?_
              refine zk_icmp_eq (tgt := 145) hX dX12_orderTold_124 (by decide) (fun c124 => ?_) (fun c124 => ?_)
              · exact absurd c124 (nI_n9 (by omega))
              refine zk_aload_n hX dX12_orderTold_127 rfl ?_
              refine zk_getR hX dX12_orderTold_128 flX12_105 k_166 z_166 (hw1 _ _ (by decide) |>.trans r_166_51) ?_
              refine zk_bipush (v := 8) hX dX12_orderTold_131 (by decide) ?_
              refine zk_iload hX dX12_orderTold_133 rfl ?_
              refine zk_imul hX dX12_orderTold_135 ?_
              refine zk_iload hX dX12_orderTold_136 rfl ?_
              refine zk_iadd hX dX12_orderTold_138 ?_
              refine zk_ialdE hX dX12_orderTold_139 (nI_addE (nI_mulE (nI_k 8 rfl) rfl) rfl) k_198 z_198 (by first | assumption | omega) rfl ?_
              rw [e8]
              refine zk_bipush (v := -9) hX dX12_orderTold_140 (by decide) ?_
              refine zk_icmp_eq (tgt := 207) hX dX12_orderTold_142 (by decide) (fun c142 => ?_) (fun c142 => ?_)
              · exact absurd c142 (nI_n9 (by omega))
              refine zk_aload_n hX dX12_orderTold_145 rfl ?_
              refine zk_getR hX dX12_orderTold_146 flX12_105 k_166 z_166 (hw1 _ _ (by decide) |>.trans r_166_51) ?_
              refine zk_bipush (v := 9) hX dX12_orderTold_149 (by decide) ?_
              refine zk_iload hX dX12_orderTold_151 rfl ?_
              refine zk_imul hX dX12_orderTold_153 ?_
              refine zk_ialdE hX dX12_orderTold_154 (nI_mulE (nI_k 9 rfl) rfl) k_198 z_198 (by first | assumption | omega) rfl ?_
              rw [eD9]
              refine zk_bipush (v := -9) hX dX12_orderTold_155 (by decide) ?_
              refine zk_icmp_eq (tgt := 207) hX dX12_orderTold_157 (by decide) (fun c157 => ?_) (fun c157 => ?_)
              · exact absurd c157 (by decide)
              refine zk_iload hX dX12_orderTold_160 rfl ?_
              refine zk_bipush (v := -9) hX dX12_orderTold_162 (by decide) ?_
              refine zk_icmp_ne (tgt := 171) hX dX12_orderTold_164 (by decide) (fun c164 => ?_) (fun c164 => ?_)
              rotate_left
              · exact absurd c164 (nI_n9 (by omega))
              refine zk_aload_n hX dX12_orderTold_171 rfl ?_
              refine zk_getR hX dX12_orderTold_172 flX12_105 k_166 z_166 (hw1 _ _ (by decide) |>.trans r_166_51) ?_
              refine zk_bipush (v := 8) hX dX12_orderTold_175 (by decide) ?_
              refine zk_iload hX dX12_orderTold_177 rfl ?_
              refine zk_imul hX dX12_orderTold_179 ?_
              refine zk_iload hX dX12_orderTold_180 rfl ?_
              refine zk_iadd hX dX12_orderTold_182 ?_
              refine zk_ialdE hX dX12_orderTold_183 (nI_addE (nI_mulE (nI_k 8 rfl) rfl) rfl) k_198 z_198 (by first | assumption | omega) rfl ?_
              rw [e8]
              refine zk_aload_n hX dX12_orderTold_184 rfl ?_
              refine zk_getR hX dX12_orderTold_185 flX12_108 k_166 z_166 (hw1 _ _ (by decide) |>.trans r_166_52) ?_
              refine zk_bipush (v := 8) hX dX12_orderTold_188 (by decide) ?_
              refine zk_iload_n hX dX12_orderTold_190 rfl ?_
              refine zk_iconst (v := 1) hX dX12_orderTold_191 (by decide) ?_
              rw [e1O]
              refine zk_iload hX dX12_orderTold_192 rfl ?_
              refine zk_ishl hX dX12_orderTold_194 ?_
              rw [nI_shl _ (by omega)]
              refine zk_ior hX dX12_orderTold_195 ?_
              rw [nI_or]
              refine zk_imul hX dX12_orderTold_196 ?_
              refine zk_iload hX dX12_orderTold_197 rfl ?_
              refine zk_iadd hX dX12_orderTold_199 ?_
              refine zk_ialdE hX dX12_orderTold_200 (nI_addE (nI_mulE (nI_k 8 rfl) rfl) rfl) k_199 z_199 (by first | assumption | omega) rfl ?_
              rw [u1]
              refine zk_iadd hX dX12_orderTold_201 ?_
              rw [show zoe (some t) = nI t from rfl, nI_add, hs0]
              refine zk_iload hX dX12_orderTold_202 rfl ?_
              refine zk_icmp_eq (tgt := 213) hX dX12_orderTold_204 (by decide) (fun c204 => ?_) (fun c204 => ?_)
              rotate_left
              · exact absurd rfl c204
              exact pk
        | succ z ihz =>
          intro i hi
          have hiY : i < Y n := by omega
          have his : i < s := by omega
          have hnp := hx.2.2 i hiY
          have h9 := ihz (i + 1) (by omega)
          have ch := s_X12_has (G := G) (w := w1) (d := oSet Y n) (x := i) (by omega) (by omega)
          have skip : zk0 G X mX12_orderTold 207 [.ref 166, .int (nI r), .int (nI (oV s (oB W) T 0 none)), .int (nI (oSet Y n)), .int (zoe (oLast Y n)), .int (nI (oV s (oB W) T (oSet Y n) (oLast Y n))), .int (nI n), .int (nI i)] [] w1 := by
            refine zk_iinc (lo' := [_, _, _, _, _, _, _, _]) hX dX12_orderTold_207 rfl (by first | exact zinc _ | exact rfl) (Nat.le_of_ble_eq_true rfl) rfl rfl ?_
            refine zk_goto (tgt := 111) hX dX12_orderTold_210 (by decide) ?_
            exact h9
          by_cases q : (oSet Y n).testBit i = true
          · refine zk_iload_n hX dX12_orderTold_111 rfl ?_
            refine zk_iload hX dX12_orderTold_112 rfl ?_
            refine zk_S2i hX dX12_orderTold_114 kcX12_has mlX12_372 smX12_has rfl ch (Nat.le_of_ble_eq_true rfl) rfl ?_
            refine zk_if_neB (tgt := 207) hX dX12_orderTold_117 (by decide) (fun c117 => ?_) (fun c117 => ?_)
            rotate_left
            · exact absurd q c117
            exact skip
          · have hb : (oSet Y n).testBit i = false := Bool.eq_false_iff.mpr q
            obtain ⟨u1, u2, u3⟩ := e199 i his hb
            have eD9 := e9 i his
            have hnv : ∀ m : Nat, oBo (oB W) (oLast Y n) i = m → O (c i) = true → ¬ nI (m + U (oSet Y n ||| 1 <<< i) i) = nI (oV s (oB W) T (oSet Y n) (oLast Y n)) ∨ 4000000 < m := fun m hm hO => by
              rcases Nat.lt_or_ge 4000000 m with g | g
              · exact Or.inr g
              · refine Or.inl (fun z => hnp (oPick_t.mpr ⟨hb, ?_⟩))
                have z := nI_inj (by omega) (by omega) z
                rw [eUT i his hb hO] at z
                show oBo (oB W) (oLast Y n) i + T (oSet Y n ||| 1 <<< i) i = _
                omega
            cases el : oLast Y n with
            | none =>
              rw [el] at skip hnv
              rcases oWd_d (hWd i i) with ⟨hO, eD⟩ | ⟨hO, eD⟩
              · rw [eD] at eD9
                have h7 := (hnv 0 rfl hO).resolve_right (by omega)
                rw [Nat.zero_add] at h7
                refine zk_iload_n hX dX12_orderTold_111 rfl ?_
                refine zk_iload hX dX12_orderTold_112 rfl ?_
                refine zk_S2i hX dX12_orderTold_114 kcX12_has mlX12_372 smX12_has rfl ch (Nat.le_of_ble_eq_true rfl) rfl ?_
                refine zk_if_neB (tgt := 207) hX dX12_orderTold_117 (by decide) (fun c117 => ?_) (fun c117 => ?_)
                · exact absurd c117 q
                refine zk_iload hX dX12_orderTold_120 rfl ?_
                refine zk_bipush (v := -9) hX dX12_orderTold_122 (by decide) ?_
                refine zk_icmp_eq (tgt := 145) hX dX12_orderTold_124 (by decide) (fun c124 => ?_) (fun c124 => ?_)
                rotate_left
                · exact absurd rfl c124
                refine zk_aload_n hX dX12_orderTold_145 rfl ?_
                refine zk_getR hX dX12_orderTold_146 flX12_105 k_166 z_166 (hw1 _ _ (by decide) |>.trans r_166_51) ?_
                refine zk_bipush (v := 9) hX dX12_orderTold_149 (by decide) ?_
                refine zk_iload hX dX12_orderTold_151 rfl ?_
                refine zk_imul hX dX12_orderTold_153 ?_
                refine zk_ialdE hX dX12_orderTold_154 (nI_mulE (nI_k 9 rfl) rfl) k_198 z_198 (by first | assumption | omega) rfl ?_
                rw [eD9]
                refine zk_bipush (v := -9) hX dX12_orderTold_155 (by decide) ?_
                refine zk_icmp_eq (tgt := 207) hX dX12_orderTold_157 (by decide) (fun c157 => ?_) (fun c157 => ?_)
                · exact absurd c157 (by decide)
                refine zk_iload hX dX12_orderTold_160 rfl ?_
                refine zk_bipush (v := -9) hX dX12_orderTold_162 (by decide) ?_
                refine zk_icmp_ne (tgt := 171) hX dX12_orderTold_164 (by decide) (fun c164 => ?_) (fun c164 => ?_)
                · exact absurd c164 (fun z => z rfl)
                refine zk_iconst (v := 0) hX dX12_orderTold_167 (by decide) ?_
                refine zk_goto (tgt := 184) hX dX12_orderTold_168 (by decide) ?_
                refine zk_aload_n hX dX12_orderTold_184 rfl ?_
                refine zk_getR hX dX12_orderTold_185 flX12_108 k_166 z_166 (hw1 _ _ (by decide) |>.trans r_166_52) ?_
                refine zk_bipush (v := 8) hX dX12_orderTold_188 (by decide) ?_
                refine zk_iload_n hX dX12_orderTold_190 rfl ?_
                refine zk_iconst (v := 1) hX dX12_orderTold_191 (by decide) ?_
                rw [e1O]
                refine zk_iload hX dX12_orderTold_192 rfl ?_
                refine zk_ishl hX dX12_orderTold_194 ?_
                rw [nI_shl _ (by omega)]
                refine zk_ior hX dX12_orderTold_195 ?_
                rw [nI_or]
                refine zk_imul hX dX12_orderTold_196 ?_
                refine zk_iload hX dX12_orderTold_197 rfl ?_
                refine zk_iadd hX dX12_orderTold_199 ?_
                refine zk_ialdE hX dX12_orderTold_200 (nI_addE (nI_mulE (nI_k 8 rfl) rfl) rfl) k_199 z_199 (by first | assumption | omega) rfl ?_
                rw [u1]
                refine zk_iadd hX dX12_orderTold_201 ?_
                rw [Int32.zero_add]
                refine zk_iload hX dX12_orderTold_202 rfl ?_
                refine zk_icmp_eq (tgt := 213) hX dX12_orderTold_204 (by decide) (fun c204 => ?_) (fun c204 => ?_)
                · exact absurd c204 h7
                exact skip
              · rw [eD] at eD9
                refine zk_iload_n hX dX12_orderTold_111 rfl ?_
                refine zk_iload hX dX12_orderTold_112 rfl ?_
                refine zk_S2i hX dX12_orderTold_114 kcX12_has mlX12_372 smX12_has rfl ch (Nat.le_of_ble_eq_true rfl) rfl ?_
                refine zk_if_neB (tgt := 207) hX dX12_orderTold_117 (by decide) (fun c117 => ?_) (fun c117 => ?_)
                · exact absurd c117 q
                refine zk_iload hX dX12_orderTold_120 rfl ?_
                refine zk_bipush (v := -9) hX dX12_orderTold_122 (by decide) ?_
                refine zk_icmp_eq (tgt := 145) hX dX12_orderTold_124 (by decide) (fun c124 => ?_) (fun c124 => ?_)
                rotate_left
                · exact absurd rfl c124
                refine zk_aload_n hX dX12_orderTold_145 rfl ?_
                refine zk_getR hX dX12_orderTold_146 flX12_105 k_166 z_166 (hw1 _ _ (by decide) |>.trans r_166_51) ?_
                refine zk_bipush (v := 9) hX dX12_orderTold_149 (by decide) ?_
                refine zk_iload hX dX12_orderTold_151 rfl ?_
                refine zk_imul hX dX12_orderTold_153 ?_
                refine zk_ialdE hX dX12_orderTold_154 (nI_mulE (nI_k 9 rfl) rfl) k_198 z_198 (by first | assumption | omega) rfl ?_
                rw [eD9]
                refine zk_bipush (v := -9) hX dX12_orderTold_155 (by decide) ?_
                refine zk_icmp_eq (tgt := 207) hX dX12_orderTold_157 (by decide) (fun c157 => ?_) (fun c157 => ?_)
                rotate_left
                · exact absurd rfl c157
                exact skip
            | some l =>
              have hl8 := hlast l el
              rw [el] at skip hnv
              have e8 := e198 l i hl8 his
              cases ew : W l i with
              | none =>
                rw [ew] at e8
                refine zk_iload_n hX dX12_orderTold_111 rfl ?_
                refine zk_iload hX dX12_orderTold_112 rfl ?_
                refine zk_S2i hX dX12_orderTold_114 kcX12_has mlX12_372 smX12_has rfl ch (Nat.le_of_ble_eq_true rfl) rfl ?_
                refine zk_if_neB (tgt := 207) hX dX12_orderTold_117 (by decide) (fun c117 => ?_) (fun c117 => ?_)
                · exact absurd c117 q
                refine zk_iload hX dX12_orderTold_120 rfl ?_
                refine zk_bipush (v := -9) hX dX12_orderTold_122 (by decide) ?_
                refine zk_icmp_eq (tgt := 145) hX dX12_orderTold_124 (by decide) (fun c124 => ?_) (fun c124 => ?_)
                · exact absurd c124 (nI_n9 (by omega))
                refine zk_aload_n hX dX12_orderTold_127 rfl ?_
                refine zk_getR hX dX12_orderTold_128 flX12_105 k_166 z_166 (hw1 _ _ (by decide) |>.trans r_166_51) ?_
                refine zk_bipush (v := 8) hX dX12_orderTold_131 (by decide) ?_
                refine zk_iload hX dX12_orderTold_133 rfl ?_
                refine zk_imul hX dX12_orderTold_135 ?_
                refine zk_iload hX dX12_orderTold_136 rfl ?_
                refine zk_iadd hX dX12_orderTold_138 ?_
                refine zk_ialdE hX dX12_orderTold_139 (nI_addE (nI_mulE (nI_k 8 rfl) rfl) rfl) k_198 z_198 (by first | assumption | omega) rfl ?_
                rw [e8]
                refine zk_bipush (v := -9) hX dX12_orderTold_140 (by decide) ?_
                refine zk_icmp_eq (tgt := 207) hX dX12_orderTold_142 (by decide) (fun c142 => ?_) (fun c142 => ?_)
                rotate_left
                · exact absurd rfl c142
                exact skip
              | some t =>
                have ht9 := (hW l i hl8 his).2 t ew
                have hd := hWd l i
                rw [ew] at hd
                have hO := (oWd_h hd).2
                rw [ew] at e8
                have et : oBo (oB W) (some l) i = t := by show oB W l i = t; unfold oB; rw [ew]; rfl
                have h7 := (hnv t et hO).resolve_right (by omega)
                rcases oWd_d (hWd i i) with ⟨_, eD⟩ | ⟨g, _⟩
                · rw [eD] at eD9
                  refine zk_iload_n hX dX12_orderTold_111 rfl ?_
                  refine zk_iload hX dX12_orderTold_112 rfl ?_
                  refine zk_S2i hX dX12_orderTold_114 kcX12_has mlX12_372 smX12_has rfl ch (Nat.le_of_ble_eq_true rfl) rfl ?_
                  refine zk_if_neB (tgt := 207) hX dX12_orderTold_117 (by decide) (fun c117 => ?_) (fun c117 => ?_)
                  · exact absurd c117 q
                  refine zk_iload hX dX12_orderTold_120 rfl ?_
                  refine zk_bipush (v := -9) hX dX12_orderTold_122 (by decide) ?_
                  refine zk_icmp_eq (tgt := 145) hX dX12_orderTold_124 (by decide) (fun c124 => ?_) (fun c124 => ?_)
                  · exact absurd c124 (nI_n9 (by omega))
                  refine zk_aload_n hX dX12_orderTold_127 rfl ?_
                  refine zk_getR hX dX12_orderTold_128 flX12_105 k_166 z_166 (hw1 _ _ (by decide) |>.trans r_166_51) ?_
                  refine zk_bipush (v := 8) hX dX12_orderTold_131 (by decide) ?_
                  refine zk_iload hX dX12_orderTold_133 rfl ?_
                  refine zk_imul hX dX12_orderTold_135 ?_
                  refine zk_iload hX dX12_orderTold_136 rfl ?_
                  refine zk_iadd hX dX12_orderTold_138 ?_
                  refine zk_ialdE hX dX12_orderTold_139 (nI_addE (nI_mulE (nI_k 8 rfl) rfl) rfl) k_198 z_198 (by first | assumption | omega) rfl ?_
                  rw [e8]
                  refine zk_bipush (v := -9) hX dX12_orderTold_140 (by decide) ?_
                  refine zk_icmp_eq (tgt := 207) hX dX12_orderTold_142 (by decide) (fun c142 => ?_) (fun c142 => ?_)
                  · exact absurd c142 (nI_n9 (by omega))
                  refine zk_aload_n hX dX12_orderTold_145 rfl ?_
                  refine zk_getR hX dX12_orderTold_146 flX12_105 k_166 z_166 (hw1 _ _ (by decide) |>.trans r_166_51) ?_
                  refine zk_bipush (v := 9) hX dX12_orderTold_149 (by decide) ?_
                  refine zk_iload hX dX12_orderTold_151 rfl ?_
                  refine zk_imul hX dX12_orderTold_153 ?_
                  refine zk_ialdE hX dX12_orderTold_154 (nI_mulE (nI_k 9 rfl) rfl) k_198 z_198 (by first | assumption | omega) rfl ?_
                  rw [eD9]
                  refine zk_bipush (v := -9) hX dX12_orderTold_155 (by decide) ?_
                  refine zk_icmp_eq (tgt := 207) hX dX12_orderTold_157 (by decide) (fun c157 => ?_) (fun c157 => ?_)
                  · exact absurd c157 (by decide)
                  refine zk_iload hX dX12_orderTold_160 rfl ?_
                  refine zk_bipush (v := -9) hX dX12_orderTold_162 (by decide) ?_
                  refine zk_icmp_ne (tgt := 171) hX dX12_orderTold_164 (by decide) (fun c164 => ?_) (fun c164 => ?_)
                  rotate_left
                  · exact absurd c164 (nI_n9 (by omega))
                  refine zk_aload_n hX dX12_orderTold_171 rfl ?_
                  refine zk_getR hX dX12_orderTold_172 flX12_105 k_166 z_166 (hw1 _ _ (by decide) |>.trans r_166_51) ?_
                  refine zk_bipush (v := 8) hX dX12_orderTold_175 (by decide) ?_
                  refine zk_iload hX dX12_orderTold_177 rfl ?_
                  refine zk_imul hX dX12_orderTold_179 ?_
                  refine zk_iload hX dX12_orderTold_180 rfl ?_
                  refine zk_iadd hX dX12_orderTold_182 ?_
                  refine zk_ialdE hX dX12_orderTold_183 (nI_addE (nI_mulE (nI_k 8 rfl) rfl) rfl) k_198 z_198 (by first | assumption | omega) rfl ?_
                  rw [e8]
                  refine zk_aload_n hX dX12_orderTold_184 rfl ?_
                  refine zk_getR hX dX12_orderTold_185 flX12_108 k_166 z_166 (hw1 _ _ (by decide) |>.trans r_166_52) ?_
                  refine zk_bipush (v := 8) hX dX12_orderTold_188 (by decide) ?_
                  refine zk_iload_n hX dX12_orderTold_190 rfl ?_
                  refine zk_iconst (v := 1) hX dX12_orderTold_191 (by decide) ?_
                  rw [e1O]
                  refine zk_iload hX dX12_orderTold_192 rfl ?_
                  refine zk_ishl hX dX12_orderTold_194 ?_
                  rw [nI_shl _ (by omega)]
                  refine zk_ior hX dX12_orderTold_195 ?_
                  rw [nI_or]
                  refine zk_imul hX dX12_orderTold_196 ?_
                  refine zk_iload hX dX12_orderTold_197 rfl ?_
                  refine zk_iadd hX dX12_orderTold_199 ?_
                  refine zk_ialdE hX dX12_orderTold_200 (nI_addE (nI_mulE (nI_k 8 rfl) rfl) rfl) k_199 z_199 (by first | assumption | omega) rfl ?_
                  rw [u1]
                  refine zk_iadd hX dX12_orderTold_201 ?_
                  rw [show zoe (some t) = nI t from rfl, nI_add]
                  refine zk_iload hX dX12_orderTold_202 rfl ?_
                  refine zk_icmp_eq (tgt := 213) hX dX12_orderTold_204 (by decide) (fun c204 => ?_) (fun c204 => ?_)
                  · exact absurd c204 h7
                  exact skip
                · exact absurd hO g
      refine zk_iload hX dX12_orderTold_99 rfl ?_
      refine zk_aload_n hX dX12_orderTold_101 rfl ?_
      refine zk_getI hX dX12_orderTold_102 flX12_368 k_166 z_166 ?_
      refine zk_icmp_ge (tgt := 278) hX dX12_orderTold_105 (by decide) (fun c105 => ?_) (fun c105 => ?_)
      · exact absurd c105 (by rw [hs1]; exact nI_ge (by omega) (by omega))
      refine zk_iconst (v := 0) hX dX12_orderTold_108 (by decide) ?_
      refine zk_istore (lo' := [_, _, _, _, _, _, _, _]) hX dX12_orderTold_109 (Nat.le_of_ble_eq_true rfl) rfl rfl ?_
      exact search (Y n) 0 (by omega)
  have fin : ∀ a7 : Int32, ∀ a5 a6 a8 : Value, zk0 G X mX12_orderTold 68 [.ref 166, .int (nI r), .int (nI (oV s (oB W) T 0 none)), .int a7, a5, a6, a8, .null] [] w := by
    intro a7 a5 a6 a8
    by_cases q : oV s (oB W) T 0 none < 1000000
    · obtain ⟨Y, hY⟩ := hXs q
      refine zk_iload_n hX dX12_orderTold_68 rfl ?_
      refine zk_ldcw hX dX12_orderTold_69 cnX12_371 ?_
      rw [eL]
      refine zk_icmp_lt (tgt := 78) hX dX12_orderTold_72 (by decide) (fun c72 => ?_) (fun c72 => ?_)
      rotate_left
      · exact absurd (nI_lt q (by decide)) c72
      refine zk_aload_n hX dX12_orderTold_78 rfl ?_
      refine zk_iload_n hX dX12_orderTold_79 rfl ?_
      refine zk_aload_n hX dX12_orderTold_80 rfl ?_
      refine zk_getI hX dX12_orderTold_81 flX12_368 k_166 z_166 ?_
      rw [hs]
      refine zk_V2v hX dX12_orderTold_84 kcX12_clear mlX12_275 viX12_clear rfl k_166 z_166 (s_X12_clear hw hr _) (Nat.le_of_ble_eq_true rfl) rfl ?_
      refine zk_iconst (v := 0) hX dX12_orderTold_87 (by decide) ?_
      refine zk_istore_n (lo' := [_, _, _, _, _, _, _, _]) hX dX12_orderTold_88 (Nat.le_of_ble_eq_true rfl) rfl rfl ?_
      refine zk_bipush (v := -9) hX dX12_orderTold_89 (by decide) ?_
      refine zk_istore (lo' := [_, _, _, _, _, _, _, _]) hX dX12_orderTold_91 (Nat.le_of_ble_eq_true rfl) rfl rfl ?_
      refine zk_iload_n hX dX12_orderTold_93 rfl ?_
      refine zk_istore (lo' := [_, _, _, _, _, _, _, _]) hX dX12_orderTold_94 (Nat.le_of_ble_eq_true rfl) rfl rfl ?_
      refine zk_iconst (v := 0) hX dX12_orderTold_96 (by decide) ?_
      refine zk_istore (lo' := [_, _, _, _, _, _, _, _]) hX dX12_orderTold_97 (Nat.le_of_ble_eq_true rfl) rfl rfl ?_
      refine told Y q hY s 0 _ _ _ (by omega) (fun _ => rfl) (zFr_t (zFr_i (by decide) (by decide)) (zfillR_fr (by decide) (by decide))) (fun q hq => ?_) ?_ (fun q hq => ?_) (fun q hq => absurd hq (by omega))
      · rw [zfillR_o (by decide), zsi_1, if_neg (fun z => hq z.2)]
      · rw [zfillR_o (by decide), zsi_1, if_pos ⟨rfl, rfl⟩]
      · rw [zfillR_1, if_neg (by omega), zsi_o (by decide)]
    · refine zk_iload_n hX dX12_orderTold_68 rfl ?_
      refine zk_ldcw hX dX12_orderTold_69 cnX12_371 ?_
      rw [eL]
      refine zk_icmp_lt (tgt := 78) hX dX12_orderTold_72 (by decide) (fun c72 => ?_) (fun c72 => ?_)
      · exact absurd c72 (nI_nlt (by omega) (by omega))
      refine zk_bipush (v := -9) hX dX12_orderTold_75 (by decide) ?_
      refine zk_iret hX hE rfl ⟨rfl, rfl⟩ dX12_orderTold_77 ⟨_, rfl, ?_⟩
      exact Or.inl ⟨q, rfl, rfl⟩
  have first : ∀ m i (a4 : Value), i + m = s → zk0 G X mX12_orderTold 6 [.ref 166, .int (nI r), .int (nI (oMin (fun i => (W i i).isSome) (fun i => U (1 <<< i) i) i)), .int (nI i), a4, .null, .null, .null] [] w := by
    intro m
    induction m with
    | zero =>
      intro i a4 hi
      obtain rfl : i = s := by omega
      rw [eA]
      refine zk_iload_n hX dX12_orderTold_6 rfl ?_
      refine zk_aload_n hX dX12_orderTold_7 rfl ?_
      refine zk_getI hX dX12_orderTold_8 flX12_368 k_166 z_166 ?_
      refine zk_icmp_ge (tgt := 68) hX dX12_orderTold_11 (by decide) (fun c11 => ?_) (fun c11 => ?_)
      rotate_left
      · exact absurd (by rw [hs]; exact nI_le (Nat.le_refl _) (by omega)) c11
      exact fin _ _ _ _
    | succ m ih =>
      intro i a4 hi
      have his : i < s := by omega
      have h9 := fun a4 => ih (i + 1) a4 (by omega)
      have m1 := oMin_le (fun i => (W i i).isSome) (fun i => U (1 <<< i) i) i
      have e9 : w.1 198 (9 * i) = zoe (W i i) := by rw [show 9 * i = 8 * i + i by omega]; exact (hW i i his his).1
      rcases oWd_d (hWd i i) with ⟨_, eD⟩ | ⟨_, eD⟩
      · rw [eD] at e9
        have hle := oAdd_le (s := s) (Nat.zero_le _) his
        have hgt := oAdd_gt (d := 0) (x := i) (by simp)
        rw [Nat.zero_or] at hle hgt
        have u1 := hC (1 <<< i) (by omega) hle i his
        have u2 := oRec2_le hR2 (d := 1 <<< i) (by omega) hle his
        rw [oMin_t (P := fun i => (W i i).isSome) (by show (W i i).isSome = true; rw [eD]; rfl)] at h9
        refine zk_iload_n hX dX12_orderTold_6 rfl ?_
        refine zk_aload_n hX dX12_orderTold_7 rfl ?_
        refine zk_getI hX dX12_orderTold_8 flX12_368 k_166 z_166 ?_
        refine zk_icmp_ge (tgt := 68) hX dX12_orderTold_11 (by decide) (fun c11 => ?_) (fun c11 => ?_)
        · exact absurd c11 (by rw [hs]; exact nI_ge (by omega) (by omega))
        refine zk_aload_n hX dX12_orderTold_14 rfl ?_
        refine zk_getR hX dX12_orderTold_15 flX12_105 k_166 z_166 (hw _ _ (by decide) |>.trans r_166_51) ?_
        refine zk_bipush (v := 9) hX dX12_orderTold_18 (by decide) ?_
        refine zk_iload_n hX dX12_orderTold_20 rfl ?_
        refine zk_imul hX dX12_orderTold_21 ?_
        refine zk_ialdE hX dX12_orderTold_22 (nI_mulE (nI_k 9 rfl) rfl) k_198 z_198 (by first | assumption | omega) rfl ?_
        rw [e9]
        refine zk_bipush (v := -9) hX dX12_orderTold_23 (by decide) ?_
        refine zk_icmp_ne (tgt := 34) hX dX12_orderTold_25 (by decide) (fun c25 => ?_) (fun c25 => ?_)
        rotate_left
        · exact absurd c25 (by decide)
        refine zk_aload_n hX dX12_orderTold_34 rfl ?_
        refine zk_getR hX dX12_orderTold_35 flX12_108 k_166 z_166 (hw _ _ (by decide) |>.trans r_166_52) ?_
        refine zk_bipush (v := 8) hX dX12_orderTold_38 (by decide) ?_
        refine zk_iconst (v := 1) hX dX12_orderTold_40 (by decide) ?_
        rw [show (1 : Int32) = nI 1 from rfl]
        refine zk_iload_n hX dX12_orderTold_41 rfl ?_
        refine zk_ishl hX dX12_orderTold_42 ?_
        rw [nI_shl _ (by omega)]
        refine zk_imul hX dX12_orderTold_43 ?_
        refine zk_iload_n hX dX12_orderTold_44 rfl ?_
        refine zk_iadd hX dX12_orderTold_45 ?_
        refine zk_ialdE hX dX12_orderTold_46 (nI_addE (nI_mulE (nI_k 8 rfl) rfl) rfl) k_199 z_199 (by first | assumption | omega) rfl ?_
        rw [u1]
        refine zk_istore (lo' := [_, _, _, _, _, _, _, _]) hX dX12_orderTold_47 (Nat.le_of_ble_eq_true rfl) rfl rfl ?_
        refine zk_iload hX dX12_orderTold_49 rfl ?_
        refine zk_iload_n hX dX12_orderTold_51 rfl ?_
        refine zk_icmp_ge (tgt := 60) hX dX12_orderTold_52 (by decide) (fun c52 => ?_) (fun c52 => ?_)
        · refine zk_iload_n hX dX12_orderTold_60 rfl ?_
          refine zk_istore_n (lo' := [_, _, _, _, _, _, _, _]) hX dX12_orderTold_61 (Nat.le_of_ble_eq_true rfl) rfl rfl ?_
          refine zk_iinc (lo' := [_, _, _, _, _, _, _, _]) hX dX12_orderTold_62 rfl (by first | exact zinc _ | exact rfl) (Nat.le_of_ble_eq_true rfl) rfl rfl ?_
          refine zk_goto (tgt := 6) hX dX12_orderTold_65 (by decide) ?_
          first
          | (have q := nI_leD c52 (by omega) (by omega)
             rw [Nat.min_eq_left (by omega)] at h9
             exact h9 _)
          | (have q := nI_ltD c52 (by omega) (by omega)
             rw [Nat.min_eq_right (by omega)] at h9
             exact h9 _)
        · refine zk_iload hX dX12_orderTold_55 rfl ?_
          refine zk_goto (tgt := 61) hX dX12_orderTold_57 (by decide) ?_
          refine zk_istore_n (lo' := [_, _, _, _, _, _, _, _]) hX dX12_orderTold_61 (Nat.le_of_ble_eq_true rfl) rfl rfl ?_
          refine zk_iinc (lo' := [_, _, _, _, _, _, _, _]) hX dX12_orderTold_62 rfl (by first | exact zinc _ | exact rfl) (Nat.le_of_ble_eq_true rfl) rfl rfl ?_
          refine zk_goto (tgt := 6) hX dX12_orderTold_65 (by decide) ?_
          first
          | (have q := nI_leD c52 (by omega) (by omega)
             rw [Nat.min_eq_left (by omega)] at h9
             exact h9 _)
          | (have q := nI_ltD c52 (by omega) (by omega)
             rw [Nat.min_eq_right (by omega)] at h9
             exact h9 _)
      · rw [eD] at e9
        rw [oMin_f (P := fun i => (W i i).isSome) (by show ¬ (W i i).isSome = true; rw [eD]; decide)] at h9
        refine zk_iload_n hX dX12_orderTold_6 rfl ?_
        refine zk_aload_n hX dX12_orderTold_7 rfl ?_
        refine zk_getI hX dX12_orderTold_8 flX12_368 k_166 z_166 ?_
        refine zk_icmp_ge (tgt := 68) hX dX12_orderTold_11 (by decide) (fun c11 => ?_) (fun c11 => ?_)
        · exact absurd c11 (by rw [hs]; exact nI_ge (by omega) (by omega))
        refine zk_aload_n hX dX12_orderTold_14 rfl ?_
        refine zk_getR hX dX12_orderTold_15 flX12_105 k_166 z_166 (hw _ _ (by decide) |>.trans r_166_51) ?_
        refine zk_bipush (v := 9) hX dX12_orderTold_18 (by decide) ?_
        refine zk_iload_n hX dX12_orderTold_20 rfl ?_
        refine zk_imul hX dX12_orderTold_21 ?_
        refine zk_ialdE hX dX12_orderTold_22 (nI_mulE (nI_k 9 rfl) rfl) k_198 z_198 (by first | assumption | omega) rfl ?_
        rw [e9]
        refine zk_bipush (v := -9) hX dX12_orderTold_23 (by decide) ?_
        refine zk_icmp_ne (tgt := 34) hX dX12_orderTold_25 (by decide) (fun c25 => ?_) (fun c25 => ?_)
        · exact absurd c25 (fun z => z rfl)
        refine zk_ldcw hX dX12_orderTold_28 cnX12_371 ?_
        refine zk_goto (tgt := 47) hX dX12_orderTold_31 (by decide) ?_
        refine zk_istore (lo' := [_, _, _, _, _, _, _, _]) hX dX12_orderTold_47 (Nat.le_of_ble_eq_true rfl) rfl rfl ?_
        refine zk_iload hX dX12_orderTold_49 rfl ?_
        refine zk_iload_n hX dX12_orderTold_51 rfl ?_
        refine zk_icmp_ge (tgt := 60) hX dX12_orderTold_52 (by decide) (fun c52 => ?_) (fun c52 => ?_)
        rotate_left
        · exact absurd (by rw [eL]; exact nI_le m1 (by decide)) c52
        refine zk_iload_n hX dX12_orderTold_60 rfl ?_
        refine zk_istore_n (lo' := [_, _, _, _, _, _, _, _]) hX dX12_orderTold_61 (Nat.le_of_ble_eq_true rfl) rfl rfl ?_
        refine zk_iinc (lo' := [_, _, _, _, _, _, _, _]) hX dX12_orderTold_62 rfl (by first | exact zinc _ | exact rfl) (Nat.le_of_ble_eq_true rfl) rfl rfl ?_
        refine zk_goto (tgt := 6) hX dX12_orderTold_65 (by decide) ?_
        exact h9 _
  refine zk_ldcw hX dX12_orderTold_0 cnX12_371 ?_
  refine zk_istore_n (lo' := [_, _, _, _, _, _, _, _]) hX dX12_orderTold_3 (Nat.le_of_ble_eq_true rfl) rfl rfl ?_
  refine zk_iconst (v := 0) hX dX12_orderTold_4 (by decide) ?_
  refine zk_istore_n (lo' := [_, _, _, _, _, _, _, _]) hX dX12_orderTold_5 (Nat.le_of_ble_eq_true rfl) rfl rfl ?_
  exact first s 0 _ (by omega)
