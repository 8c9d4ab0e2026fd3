/-! guess, agrees: the calls -/
theorem zQ_look {A B F : List Nat} {w w' : zW} (h : zQ w) (hw : zWf w') (hF : zFr A B F w w') (k : (okc [4, 5, 6, 7, 8, 9, 10, 11, 12, 13, 14, 15, 168, 169] A && okc [17, 18, 19, 20, 21, 22, 23, 24, 171, 172] A && (okc kBe A && okc [186, 187, 188, 189] A && okc kBe B) && (okc [26, 27, 28, 29, 30, 31, 32, 33, 34, 173, 174, 175] A && okc [131, 132, 133, 134, 139, 140] A && okc [135, 136, 141, 142] B && okc [10, 11, 12] F) && (okc [44] A && okc [25, 26, 27] F) && (okc [0] A && okc [24] F) && (okc [0, 183, 184, 185] A && okc kPo A && okc kPo B && okc [33] F) && (okc [116, 117, 118, 119, 120, 121, 122, 123, 124, 125, 126, 200, 201] A && okc [53, 55] F)) = true) (h4 : ∀ i, i ≠ 9 → w'.1 114 i = w.1 114 i) (hT' : qT w') : zQ w' := by
  rw [Bool.and_eq_true, Bool.and_eq_true, Bool.and_eq_true, Bool.and_eq_true, Bool.and_eq_true, Bool.and_eq_true, Bool.and_eq_true] at k
  obtain ⟨⟨⟨⟨⟨⟨⟨k1, k2⟩, k3⟩, k4⟩, k5⟩, k6⟩, k7⟩, k8⟩ := k
  rw [Bool.and_eq_true] at k8
  obtain ⟨_, _, hR, hX, hB, D, z, u, v, T, n, nl, c, hH, hL, hS, hP, hK⟩ := h
  refine ⟨hw, hT', qR_f hR hF.2 k1, qX_f hX hF.2 k2, qB_f hB hF.2 k3, D, z, u, v, T, n, nl, c, qH_f hH hF.2 k4, qL_f hL hF.2 k5, qS_f hS hF.2 k6, qP_f hP hF.2 k7, ?_⟩
  exact qK_o hK ⟨h4 0 (by decide), h4 2 (by decide)⟩ (fun q hq => hF.2.1 _ (okc_m k8.1 (by simp; omega)) (by omega)) ⟨hF.2.1 124 (okc_m k8.1 (by simp)) (by decide), hF.2.1 125 (okc_m k8.1 (by simp)) (by decide), hF.2.1 126 (okc_m k8.1 (by simp)) (by decide)⟩ ⟨hF.2.1 200 (okc_m k8.1 (by simp)) (by decide), hF.2.1 201 (okc_m k8.1 (by simp)) (by decide)⟩ ⟨hF.2.2.2 53 (okc_m k8.2 (by simp)), hF.2.2.2 55 (okc_m k8.2 (by simp))⟩
/-- a looker's weights -/
theorem qK_w {w : zW} {n nl c l : Nat} (h : qK w n nl c) (hl : l < nl) : ∃ e a d : Nat, (e ≤ 9 ∧ a ≤ 9 ∧ d ≤ 9) ∧ (w.1 (116 + l) 0 = nI e ∧ w.1 (116 + l) 1 = nI a ∧ w.1 (116 + l) 2 = nI d) ∧ w.1 200 (3 * l) = nI e ∧ w.1 200 (3 * l + 1) = nI a ∧ w.1 200 (3 * l + 2) = nI d := by
  have k := h.1.2.2.2 l
  have g : ∀ t, t < 3 → ∃ x, x ≤ 9 ∧ w.1 200 (3 * l + t) = nI x := fun t ht => znatle (n := 9) (by decide) (k t hl ht).2.1 (k t hl ht).2.2
  obtain ⟨e, he, ee⟩ := g 0 (by decide)
  obtain ⟨a, ha, ea⟩ := g 1 (by decide)
  obtain ⟨d, hd, ed⟩ := g 2 (by decide)
  exact ⟨e, a, d, ⟨he, ha, hd⟩, ⟨(k 0 hl (by decide)).1.trans ee, (k 1 hl (by decide)).1.trans ea, (k 2 hl (by decide)).1.trans ed⟩, ee, ea, ed⟩
def zgtl (g : Option Nat) (F : Nat → Nat) (e : Int32) : Int32 := match g with
  | none => e
  | some q => nI (F q)
theorem s_X11_guess_bad {G : zG} {w : zW} (hw : zWf w) (l p : Int32) (h : ¬ ((0 ≤ l ∧ l < w.1 114 0) ∧ (0 ≤ p ∧ p < w.1 0 10))) : zEi G mX11_guess [.ref 0, .int l, .int p] w (-1) w := by
  refine zC_of (lo := [_, _, _, _]) kcX11_guess (Nat.le_of_ble_eq_true rfl) rfl (fun X hX hE => ?_)
  refine zk_aload_n hX dX11_guess_0 rfl ?_
  refine zk_iload_n hX dX11_guess_1 rfl ?_
  refine zk_V1i hX dX11_guess_2 kcX11_isLooker mlX11_414 viX11_isLooker rfl k_0 z_0 (s_X11_isLooker hw _) (Nat.le_of_ble_eq_true rfl) rfl ?_
  refine zk_if_eqB (tgt := 16) hX dX11_guess_5 (by decide) (fun c5 => ?_) (fun c5 => ?_)
  · refine zk_iconst (v := -1) hX dX11_guess_16 (by decide) ?_
    refine zk_iret hX hE rfl ⟨rfl, rfl⟩ dX11_guess_17 ⟨_, rfl, ?_⟩
    exact ⟨rfl, rfl⟩
  · refine zk_aload_n hX dX11_guess_8 rfl ?_
    refine zk_iload_n hX dX11_guess_9 rfl ?_
    refine zk_V1i hX dX11_guess_10 kcX11_isPose mlX11_227 viX11_isPose rfl k_0 z_0 (s_X11_isPose hw _) (Nat.le_of_ble_eq_true rfl) rfl ?_
    refine zk_if_neB (tgt := 18) hX dX11_guess_13 (by decide) (fun c13 => ?_) (fun c13 => ?_)
    · exact absurd c13 (fun z => h ⟨by first | exact c5 | exact Decidable.not_not.mp c5, z⟩)
    refine zk_iconst (v := -1) hX dX11_guess_16 (by decide) ?_
    refine zk_iret hX hE rfl ⟨rfl, rfl⟩ dX11_guess_17 ⟨_, rfl, ?_⟩
    exact ⟨rfl, rfl⟩
theorem s_X11_guess {G : zG} {w : zW} {b : zBd} {n nl l p z u v e a d : Nat} {Zf : Nat → zS} {mo : Nat → Bool} (hw : zWf w) (hn : n ≤ 12) (hP : w.1 0 10 = nI n) (hp : p < n) (hn8 : nl ≤ 8) (hK : w.1 114 0 = nI nl) (hl : l < nl) (hPs : cPs w n Zf mo z u v) (hB : cBs w b) (hL : zLm w 44 z u v) (ho : zlok z u v) (he : e ≤ 9) (ha : a ≤ 9) (hd : d ≤ 9) (hW : w.1 (116 + l) 0 = nI e ∧ w.1 (116 + l) 1 = nI a ∧ w.1 (116 + l) 2 = nI d) :
    zCi G mX11_guess [.ref 0, .int (nI l), .int (nI p)] w (fun r w' => r = zoe (zgs b (Zf p) (mo p) e a d) ∧ zFr [1, 114, 127, 128, 129] [163] [] w w' ∧ (∀ i, i ≠ 9 → w'.1 114 i = w.1 114 i) ∧ (∀ i, i ≠ 0 → w'.1 1 i = w.1 1 i) ∧ w'.1 1 0 = zgtl (zgs b (Zf p) (mo p) e a d) (zsw b (Zf p) (mo p) e a d) (w.1 1 0)) := by
  have cg := s_X11_guessed (G := G) hw hn hp (show l < 8 by omega) hPs hB hL ho he ha hd hW
  generalize zsw b (Zf p) (mo p) e a d = F at *
  have hlt : ∀ q, zgs b (Zf p) (mo p) e a d = some q → q < 6 := fun q h => zbst_lt h
  generalize zgs b (Zf p) (mo p) e a d = g at *
  refine zC_of (lo := [_, _, _, _]) kcX11_guess (Nat.le_of_ble_eq_true rfl) rfl (fun X hX hE => ?_)
  cases g with
  | none =>
    refine zk_aload_n hX dX11_guess_0 rfl ?_
    refine zk_iload_n hX dX11_guess_1 rfl ?_
    refine zk_V1i hX dX11_guess_2 kcX11_isLooker mlX11_414 viX11_isLooker rfl k_0 z_0 (s_X11_isLooker hw _) (Nat.le_of_ble_eq_true rfl) rfl ?_
    refine zk_if_eqB (tgt := 16) hX dX11_guess_5 (by decide) (fun c5 => ?_) (fun c5 => ?_)
    · exact absurd c5 (not_not_intro (by rw [hK]; exact ⟨nI_pos' (by omega), nI_lt hl (by omega)⟩))
    refine zk_aload_n hX dX11_guess_8 rfl ?_
    refine zk_iload_n hX dX11_guess_9 rfl ?_
    refine zk_V1i hX dX11_guess_10 kcX11_isPose mlX11_227 viX11_isPose rfl k_0 z_0 (s_X11_isPose hw _) (Nat.le_of_ble_eq_true rfl) rfl ?_
    refine zk_if_neB (tgt := 18) hX dX11_guess_13 (by decide) (fun c13 => ?_) (fun c13 => ?_)
    rotate_left
    · exact absurd (by rw [hP]; exact ⟨nI_pos' (by omega), nI_lt hp (by omega)⟩) c13
    refine zk_aload_n hX dX11_guess_18 rfl ?_
    refine zk_iload_n hX dX11_guess_19 rfl ?_
    refine zk_iload_n hX dX11_guess_20 rfl ?_
    refine zk_V2ip hX dX11_guess_21 kcX11_guessed mlX11_427 viX11_guessed rfl k_0 z_0 cg (Nat.le_of_ble_eq_true rfl) rfl (fun x w1 q1 => ?_)
    obtain ⟨rfl, k1, k2, k3⟩ := q1
    refine zk_istore_n (lo' := [_, _, _, _]) hX dX11_guess_24 (Nat.le_of_ble_eq_true rfl) rfl rfl ?_
    refine zk_iload_n hX dX11_guess_25 rfl ?_
    refine zk_bipush (v := -9) hX dX11_guess_26 (by decide) ?_
    refine zk_icmp_ne (tgt := 34) hX dX11_guess_28 (by decide) (fun c28 => ?_) (fun c28 => ?_)
    · exact absurd c28 (fun q => q rfl)
    refine zk_bipush (v := -9) hX dX11_guess_31 (by decide) ?_
    refine zk_iret hX hE rfl ⟨rfl, rfl⟩ dX11_guess_33 ⟨_, rfl, ?_⟩
    exact ⟨rfl, zFr_s k1 (by decide), k2, fun i _ => by rw [k1.2.1 1 (by decide) (by decide)], by rw [k1.2.1 1 (by decide) (by decide)]; rfl⟩
  | some q =>
    have q6 := hlt q rfl
    refine zk_aload_n hX dX11_guess_0 rfl ?_
    refine zk_iload_n hX dX11_guess_1 rfl ?_
    refine zk_V1i hX dX11_guess_2 kcX11_isLooker mlX11_414 viX11_isLooker rfl k_0 z_0 (s_X11_isLooker hw _) (Nat.le_of_ble_eq_true rfl) rfl ?_
    refine zk_if_eqB (tgt := 16) hX dX11_guess_5 (by decide) (fun c5 => ?_) (fun c5 => ?_)
    · exact absurd c5 (not_not_intro (by rw [hK]; exact ⟨nI_pos' (by omega), nI_lt hl (by omega)⟩))
    refine zk_aload_n hX dX11_guess_8 rfl ?_
    refine zk_iload_n hX dX11_guess_9 rfl ?_
    refine zk_V1i hX dX11_guess_10 kcX11_isPose mlX11_227 viX11_isPose rfl k_0 z_0 (s_X11_isPose hw _) (Nat.le_of_ble_eq_true rfl) rfl ?_
    refine zk_if_neB (tgt := 18) hX dX11_guess_13 (by decide) (fun c13 => ?_) (fun c13 => ?_)
    rotate_left
    · exact absurd (by rw [hP]; exact ⟨nI_pos' (by omega), nI_lt hp (by omega)⟩) c13
    refine zk_aload_n hX dX11_guess_18 rfl ?_
    refine zk_iload_n hX dX11_guess_19 rfl ?_
    refine zk_iload_n hX dX11_guess_20 rfl ?_
    refine zk_V2ip hX dX11_guess_21 kcX11_guessed mlX11_427 viX11_guessed rfl k_0 z_0 cg (Nat.le_of_ble_eq_true rfl) rfl (fun x w1 q1 => ?_)
    obtain ⟨rfl, k1, k2, k3⟩ := q1
    have hw1 := zFr_wf k1 hw
    refine zk_istore_n (lo' := [_, _, _, _]) hX dX11_guess_24 (Nat.le_of_ble_eq_true rfl) rfl rfl ?_
    refine zk_iload_n hX dX11_guess_25 rfl ?_
    refine zk_bipush (v := -9) hX dX11_guess_26 (by decide) ?_
    refine zk_icmp_ne (tgt := 34) hX dX11_guess_28 (by decide) (fun c28 => ?_) (fun c28 => ?_)
    rotate_left
    · exact absurd c28 (nI_n9 (by omega))
    refine zk_aload_n hX dX11_guess_34 rfl ?_
    refine zk_getR hX dX11_guess_35 flX11_12 k_0 z_0 (hw1 _ _ (by decide) |>.trans r_0_0) ?_
    refine zk_aload_n hX dX11_guess_38 rfl ?_
    refine zk_getR hX dX11_guess_39 flX11_76 k_0 z_0 (hw1 _ _ (by decide) |>.trans r_0_12) ?_
    refine zk_getI hX dX11_guess_42 flX11_430 k_114 z_114 ?_
    rw [k3 q rfl]
    refine zk_V1i hX dX11_guess_45 kcX9_tell mlX11_132 viX9_tell rfl k_1 z_1 (s_X9_tell _) (Nat.le_of_ble_eq_true rfl) rfl ?_
    refine zk_pop hX dX11_guess_48 rfl ?_
    refine zk_iload_n hX dX11_guess_49 rfl ?_
    refine zk_iret hX hE rfl ⟨rfl, rfl⟩ dX11_guess_50 ⟨_, rfl, ?_⟩
    refine ⟨rfl, zFr_t (zFr_s k1 (by decide)) (zFr_i (by decide) (by decide)), fun i hi => ?_, fun i hi => ?_, ?_⟩
    · rw [zsi_o (by decide)]
      exact k2 i hi
    · rw [zsi_1, if_neg (fun z => hi z.2), k1.2.1 1 (by decide) (by decide)]
    · rw [zsi_1, if_pos ⟨rfl, rfl⟩]
      rfl
theorem s_X12_isLooker' {G : zG} {w : zW} {n : Nat} (hn : n ≤ 4000) (h : w.1 166 53 = nI n) (v : Int32) : zEi G mX12_isLooker [.ref 166, .int v] w (zb (0 ≤ v ∧ v < nI n)) w := s_X12_isLooker hn h v
theorem s_X12_guess_bad {G : zG} {w : zW} {n nl : Nat} (hn : n ≤ 12) (hP : w.1 166 33 = nI n) (hn8 : nl ≤ 8) (hK : w.1 166 53 = nI nl) (l p : Int32) (h : ¬ ((0 ≤ l ∧ l < nI nl) ∧ (0 ≤ p ∧ p < nI n))) : zEi G mX12_guess [.ref 166, .int l, .int p] w (-1) w := by
  refine zC_of (lo := [_, _, _, _]) kcX12_guess (Nat.le_of_ble_eq_true rfl) rfl (fun X hX hE => ?_)
  refine zk_aload_n hX dX12_guess_0 rfl ?_
  refine zk_iload_n hX dX12_guess_1 rfl ?_
  refine zk_V1i hX dX12_guess_2 kcX12_isLooker mlX12_384 viX12_isLooker rfl k_166 z_166 (s_X12_isLooker' (n := nl) (by omega) hK _) (Nat.le_of_ble_eq_true rfl) rfl ?_
  refine zk_if_eqB (tgt := 16) hX dX12_guess_5 (by decide) (fun c5 => ?_) (fun c5 => ?_)
  · refine zk_iconst (v := -1) hX dX12_guess_16 (by decide) ?_
    refine zk_iret hX hE rfl ⟨rfl, rfl⟩ dX12_guess_17 ⟨_, rfl, ?_⟩
    exact ⟨rfl, rfl⟩
  · refine zk_aload_n hX dX12_guess_8 rfl ?_
    refine zk_iload_n hX dX12_guess_9 rfl ?_
    refine zk_V1i hX dX12_guess_10 kcX12_isPose mlX12_290 viX12_isPose rfl k_166 z_166 (s_X12_isPose (n := n) (by omega) hP _) (Nat.le_of_ble_eq_true rfl) rfl ?_
    refine zk_if_neB (tgt := 18) hX dX12_guess_13 (by decide) (fun c13 => ?_) (fun c13 => ?_)
    · exact absurd c13 (fun z => h ⟨by first | exact c5 | exact Decidable.not_not.mp c5, z⟩)
    refine zk_iconst (v := -1) hX dX12_guess_16 (by decide) ?_
    refine zk_iret hX hE rfl ⟨rfl, rfl⟩ dX12_guess_17 ⟨_, rfl, ?_⟩
    exact ⟨rfl, rfl⟩
theorem s_X12_guess {G : zG} {w : zW} {D : zD} {b : zBd} {n nl l p z u v e a d : Nat} {Zf : Nat → zS} {mo : Nat → Bool} (hw : zWf w) (hM : mHd w D) (hD : zDok D) (hn : n ≤ 12) (hP : w.1 166 33 = nI n) (hp : p < n) (hn8 : nl ≤ 8) (hK : w.1 166 53 = nI nl) (hl : l < nl) (hPs : mPs w D n Zf mo z u v) (hB : mBs w b) (hL : mLm w z u v) (ho : zlok z u v) (he : e ≤ 9) (ha : a ≤ 9) (hd : d ≤ 9) (hW : w.1 200 (3 * l) = nI e ∧ w.1 200 (3 * l + 1) = nI a ∧ w.1 200 (3 * l + 2) = nI d) :
    zCi G mX12_guess [.ref 166, .int (nI l), .int (nI p)] w (fun r w' => r = zoe (zgs b (Zf p) (mo p) e a d) ∧ zFr [179, 180, 181, 182] [] [2, 29, 57] w w' ∧ w'.1 166 2 = zgtl (zgs b (Zf p) (mo p) e a d) (zsw b (Zf p) (mo p) e a d) (w.1 166 2)) := by
  have cg := s_X12_guessOf (G := G) hw hM hD hn hp hPs hB hL ho he ha hd
  generalize zsw b (Zf p) (mo p) e a d = F at *
  have hlt : ∀ q, zgs b (Zf p) (mo p) e a d = some q → q < 6 := fun q h => zbst_lt h
  generalize zgs b (Zf p) (mo p) e a d = g at *
  refine zC_of (lo := [_, _, _, _]) kcX12_guess (Nat.le_of_ble_eq_true rfl) rfl (fun X hX hE => ?_)
  cases g with
  | none =>
    refine zk_aload_n hX dX12_guess_0 rfl ?_
    refine zk_iload_n hX dX12_guess_1 rfl ?_
    refine zk_V1i hX dX12_guess_2 kcX12_isLooker mlX12_384 viX12_isLooker rfl k_166 z_166 (s_X12_isLooker' (n := nl) (by omega) hK _) (Nat.le_of_ble_eq_true rfl) rfl ?_
    refine zk_if_eqB (tgt := 16) hX dX12_guess_5 (by decide) (fun c5 => ?_) (fun c5 => ?_)
    · exact absurd c5 (not_not_intro ⟨nI_pos' (by omega), nI_lt hl (by omega)⟩)
    refine zk_aload_n hX dX12_guess_8 rfl ?_
    refine zk_iload_n hX dX12_guess_9 rfl ?_
    refine zk_V1i hX dX12_guess_10 kcX12_isPose mlX12_290 viX12_isPose rfl k_166 z_166 (s_X12_isPose (n := n) (by omega) hP _) (Nat.le_of_ble_eq_true rfl) rfl ?_
    refine zk_if_neB (tgt := 18) hX dX12_guess_13 (by decide) (fun c13 => ?_) (fun c13 => ?_)
    rotate_left
    · exact absurd ⟨nI_pos' (by omega), nI_lt hp (by omega)⟩ c13
    refine zk_aload_n hX dX12_guess_18 rfl ?_
    refine zk_iload_n hX dX12_guess_19 rfl ?_
    refine zk_aload_n hX dX12_guess_20 rfl ?_
    refine zk_getR hX dX12_guess_21 flX12_111 k_166 z_166 (hw _ _ (by decide) |>.trans r_166_54) ?_
    refine zk_iconst (v := 3) hX dX12_guess_24 (by decide) ?_
    refine zk_iload_n hX dX12_guess_25 rfl ?_
    refine zk_imul hX dX12_guess_26 ?_
    refine zk_ialdE hX dX12_guess_27 (nI_mulE (nI_k 3 rfl) rfl) k_200 z_200 (by first | assumption | omega) rfl ?_
    rw [hW.1]
    refine zk_aload_n hX dX12_guess_28 rfl ?_
    refine zk_getR hX dX12_guess_29 flX12_111 k_166 z_166 (hw _ _ (by decide) |>.trans r_166_54) ?_
    refine zk_iconst (v := 3) hX dX12_guess_32 (by decide) ?_
    refine zk_iload_n hX dX12_guess_33 rfl ?_
    refine zk_imul hX dX12_guess_34 ?_
    refine zk_iconst (v := 1) hX dX12_guess_35 (by decide) ?_
    refine zk_iadd hX dX12_guess_36 ?_
    refine zk_ialdE hX dX12_guess_37 (nI_addE (nI_mulE (nI_k 3 rfl) rfl) (nI_k 1 rfl)) k_200 z_200 (by first | assumption | omega) rfl ?_
    rw [hW.2.1]
    refine zk_aload_n hX dX12_guess_38 rfl ?_
    refine zk_getR hX dX12_guess_39 flX12_111 k_166 z_166 (hw _ _ (by decide) |>.trans r_166_54) ?_
    refine zk_iconst (v := 3) hX dX12_guess_42 (by decide) ?_
    refine zk_iload_n hX dX12_guess_43 rfl ?_
    refine zk_imul hX dX12_guess_44 ?_
    refine zk_iconst (v := 2) hX dX12_guess_45 (by decide) ?_
    refine zk_iadd hX dX12_guess_46 ?_
    refine zk_ialdE hX dX12_guess_47 (nI_addE (nI_mulE (nI_k 3 rfl) rfl) (nI_k 2 rfl)) k_200 z_200 (by first | assumption | omega) rfl ?_
    rw [hW.2.2]
    refine zk_V4ip hX dX12_guess_48 kcX12_guessOf mlX12_390 viX12_guessOf rfl k_166 z_166 cg (Nat.le_of_ble_eq_true rfl) rfl (fun x w1 q1 => ?_)
    obtain ⟨rfl, k1, k3⟩ := q1
    refine zk_istore_n (lo' := [_, _, _, _]) hX dX12_guess_51 (Nat.le_of_ble_eq_true rfl) rfl rfl ?_
    refine zk_iload_n hX dX12_guess_52 rfl ?_
    refine zk_bipush (v := -9) hX dX12_guess_53 (by decide) ?_
    refine zk_icmp_ne (tgt := 63) hX dX12_guess_55 (by decide) (fun c55 => ?_) (fun c55 => ?_)
    · exact absurd c55 (fun q => q rfl)
    refine zk_bipush (v := -9) hX dX12_guess_58 (by decide) ?_
    refine zk_goto (tgt := 72) hX dX12_guess_60 (by decide) ?_
    refine zk_iret hX hE rfl ⟨rfl, rfl⟩ dX12_guess_72 ⟨_, rfl, ?_⟩
    exact ⟨rfl, zFr_s k1 (by decide), by rw [k1.2.2.2 2 (by decide)]; rfl⟩
  | some q =>
    have q6 := hlt q rfl
    refine zk_aload_n hX dX12_guess_0 rfl ?_
    refine zk_iload_n hX dX12_guess_1 rfl ?_
    refine zk_V1i hX dX12_guess_2 kcX12_isLooker mlX12_384 viX12_isLooker rfl k_166 z_166 (s_X12_isLooker' (n := nl) (by omega) hK _) (Nat.le_of_ble_eq_true rfl) rfl ?_
    refine zk_if_eqB (tgt := 16) hX dX12_guess_5 (by decide) (fun c5 => ?_) (fun c5 => ?_)
    · exact absurd c5 (not_not_intro ⟨nI_pos' (by omega), nI_lt hl (by omega)⟩)
    refine zk_aload_n hX dX12_guess_8 rfl ?_
    refine zk_iload_n hX dX12_guess_9 rfl ?_
    refine zk_V1i hX dX12_guess_10 kcX12_isPose mlX12_290 viX12_isPose rfl k_166 z_166 (s_X12_isPose (n := n) (by omega) hP _) (Nat.le_of_ble_eq_true rfl) rfl ?_
    refine zk_if_neB (tgt := 18) hX dX12_guess_13 (by decide) (fun c13 => ?_) (fun c13 => ?_)
    rotate_left
    · exact absurd ⟨nI_pos' (by omega), nI_lt hp (by omega)⟩ c13
    refine zk_aload_n hX dX12_guess_18 rfl ?_
    refine zk_iload_n hX dX12_guess_19 rfl ?_
    refine zk_aload_n hX dX12_guess_20 rfl ?_
    refine zk_getR hX dX12_guess_21 flX12_111 k_166 z_166 (hw _ _ (by decide) |>.trans r_166_54) ?_
    refine zk_iconst (v := 3) hX dX12_guess_24 (by decide) ?_
    refine zk_iload_n hX dX12_guess_25 rfl ?_
    refine zk_imul hX dX12_guess_26 ?_
    refine zk_ialdE hX dX12_guess_27 (nI_mulE (nI_k 3 rfl) rfl) k_200 z_200 (by first | assumption | omega) rfl ?_
    rw [hW.1]
    refine zk_aload_n hX dX12_guess_28 rfl ?_
    refine zk_getR hX dX12_guess_29 flX12_111 k_166 z_166 (hw _ _ (by decide) |>.trans r_166_54) ?_
    refine zk_iconst (v := 3) hX dX12_guess_32 (by decide) ?_
    refine zk_iload_n hX dX12_guess_33 rfl ?_
    refine zk_imul hX dX12_guess_34 ?_
    refine zk_iconst (v := 1) hX dX12_guess_35 (by decide) ?_
    refine zk_iadd hX dX12_guess_36 ?_
    refine zk_ialdE hX dX12_guess_37 (nI_addE (nI_mulE (nI_k 3 rfl) rfl) (nI_k 1 rfl)) k_200 z_200 (by first | assumption | omega) rfl ?_
    rw [hW.2.1]
    refine zk_aload_n hX dX12_guess_38 rfl ?_
    refine zk_getR hX dX12_guess_39 flX12_111 k_166 z_166 (hw _ _ (by decide) |>.trans r_166_54) ?_
    refine zk_iconst (v := 3) hX dX12_guess_42 (by decide) ?_
    refine zk_iload_n hX dX12_guess_43 rfl ?_
    refine zk_imul hX dX12_guess_44 ?_
    refine zk_iconst (v := 2) hX dX12_guess_45 (by decide) ?_
    refine zk_iadd hX dX12_guess_46 ?_
    refine zk_ialdE hX dX12_guess_47 (nI_addE (nI_mulE (nI_k 3 rfl) rfl) (nI_k 2 rfl)) k_200 z_200 (by first | assumption | omega) rfl ?_
    rw [hW.2.2]
    refine zk_V4ip hX dX12_guess_48 kcX12_guessOf mlX12_390 viX12_guessOf rfl k_166 z_166 cg (Nat.le_of_ble_eq_true rfl) rfl (fun x w1 q1 => ?_)
    obtain ⟨rfl, k1, k3⟩ := q1
    have hw1 := zFr_wf k1 hw
    refine zk_istore_n (lo' := [_, _, _, _]) hX dX12_guess_51 (Nat.le_of_ble_eq_true rfl) rfl rfl ?_
    refine zk_iload_n hX dX12_guess_52 rfl ?_
    refine zk_bipush (v := -9) hX dX12_guess_53 (by decide) ?_
    refine zk_icmp_ne (tgt := 63) hX dX12_guess_55 (by decide) (fun c55 => ?_) (fun c55 => ?_)
    rotate_left
    · exact absurd c55 (nI_n9 (by omega))
    refine zk_aload_n hX dX12_guess_63 rfl ?_
    refine zk_aload_n hX dX12_guess_64 rfl ?_
    refine zk_getI hX dX12_guess_65 flX12_387 k_166 z_166 ?_
    rw [k3 q rfl]
    refine zk_iload_n hX dX12_guess_68 rfl ?_
    refine zk_V2i hX dX12_guess_69 kcX12_tells mlX12_153 viX12_tells rfl k_166 z_166 (s_X12_tells _ _) (Nat.le_of_ble_eq_true rfl) rfl ?_
    refine zk_iret hX hE rfl ⟨rfl, rfl⟩ dX12_guess_72 ⟨_, rfl, ?_⟩
    exact ⟨rfl, zFr_t (zFr_s k1 (by decide)) (zFr_m (by decide)), by rw [zsi_1, if_pos ⟨rfl, rfl⟩]; rfl⟩
theorem zO_guess {G : zG} (l p : Int32) : zOi G mX11_guess mX12_guess [.int l, .int p] := by
  intro w h
  have h0 := h
  obtain ⟨hw, hT, hR, hX, hB, D, z, u, v, T, n, nl, c, hH, hL, hS, hP, hK⟩ := h
  obtain ⟨hD, hH1, hM, hRe⟩ := hH
  have h12 := hP.1
  have h8 := hK.1.1
  by_cases hk0 : (0 ≤ l ∧ l < nI nl) ∧ (0 ≤ p ∧ p < nI n)
  · obtain ⟨l, hl, rfl⟩ := rn (by omega) hk0.1
    obtain ⟨p, hp, rfl⟩ := rn (by omega) hk0.2
    obtain ⟨b, b1, b2⟩ := qB_b hB
    obtain ⟨Zf, mo, p1, p2⟩ := qP_s hD hP z u v
    obtain ⟨e, a, d, ⟨he, ha, hd⟩, w1, w2⟩ := qK_w hK hl
    refine zCi_m (s_X11_guess (G := G) hw h12 hP.2.1 hp h8 hK.1.2.1 hl p1 b1 hL.2.1 hL.1 he ha hd w1) (fun r w3 g => ?_)
    obtain ⟨rfl, k1, k2, k3, k4⟩ := g
    refine zCi_m (s_X12_guess (G := G) (w := w3) (zFr_wf k1 hw) (mHd_f hM k1 (by decide)) hD h12 (by rw [k1.2.2.2 33 (by decide)]; exact hP.2.2.1) hp h8 (by rw [k1.2.2.2 53 (by decide)]; exact hK.1.2.2.1) hl (mPs_f p2 k1 (by decide)) (mBs_f b2 k1 (by decide)) (mLm_o hL.2.2 ⟨k1.2.2.2 25 (by decide), k1.2.2.2 26 (by decide), k1.2.2.2 27 (by decide)⟩) hL.1 he ha hd (by rw [k1.2.1 200 (by decide) (by decide)]; exact w2)) (fun r w4 g => ?_)
    obtain ⟨rfl, k5, k6⟩ := g
    have hF : zFr [1, 114, 127, 128, 129, 179, 180, 181, 182] [163] [2, 29, 57] w w4 := zFr_t (zFr_s k1 (by decide)) (zFr_s k5 (by decide))
    refine ⟨rfl, zQ_look h0 (zFr_wf hF hw) hF (by decide) (fun i hi => by rw [k5.2.1 114 (by decide) (by decide)]; exact k2 i hi) (qT_v hT ?_ ⟨hF.2.2.1 1 (by decide), hF.2.2.1 166 (by decide)⟩ ⟨?_, hF.2.2.2 0 (by decide)⟩ ⟨hF.2.1 2 (by decide) (by decide), hF.2.1 167 (by decide) (by decide)⟩)⟩
    · rw [k5.2.1 1 (by decide) (by decide), k4, k6, k1.2.2.2 2 (by decide), hT.1]
    · rw [k5.2.1 1 (by decide) (by decide), k3 3 (by decide)]
  · exact zOe (s_X11_guess_bad hw l p (by rw [hK.1.2.1, hP.2.1]; exact hk0)) (s_X12_guess_bad h12 hP.2.2.1 h8 hK.1.2.2.1 l p hk0) rfl h0
