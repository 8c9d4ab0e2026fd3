/-! guess -/
def cPs (w : zW) (n : Nat) (Zf : Nat → zS) (mo : Nat → Bool) (z u v : Nat) : Prop := ∀ p, p < n → ∃ S C, zHas w (49 + 4 * p) S ∧ zHas w (50 + 4 * p) C ∧ (if w.1 (47 + 4 * p) 3 = 5 then zun (zthr z u v S) C else zthr z u v S) = Zf p ∧ (w.1 (47 + 4 * p) 3 = 4 ↔ mo p = true)
def mPs (w : zW) (D : zD) (n : Nat) (Zf : Nat → zS) (mo : Nat → Bool) (z u v : Nat) : Prop := ∀ p, p < n → ∃ (t : Nat → Int32) (C : zS), zT2 D t ∧ (∀ j, j < dJ D → w.1 184 (6 * p + j) = t j) ∧ (∀ y, y < 10 → w.1 185 (10 * p + y) = nI (zline C y)) ∧ zshd z u v (zP D t (-1)) (w.1 183 (3 * p)) C = Zf p ∧ (w.1 183 (3 * p) = 4 ↔ mo p = true)
theorem qP_s {w : zW} {D : zD} {n : Nat} (hD : zDok D) (h : qP w D n) (z u v : Nat) : ∃ Zf mo, cPs w n Zf mo z u v ∧ mPs w D n Zf mo z u v := by
  have ex : ∀ p : Nat, ∃ C : zS, p < n → zHas w (50 + 4 * p) C ∧ ∀ y, y < 10 → w.1 185 (10 * p + y) = nI (zline C y) := fun p => by
    by_cases hp : p < n
    · obtain ⟨C, h1, h2⟩ := (h.2.2.2 p hp).2.2.2.2.2.1
      exact ⟨C, fun _ => ⟨h1, h2⟩⟩
    · exact ⟨zno, fun q => absurd q hp⟩
  refine ⟨fun p => zshd z u v (zP D (w.1 (48 + 4 * p)) (-1)) (w.1 183 (3 * p)) (ex p).choose, fun p => decide (w.1 183 (3 * p) = 4), fun p hp => ?_, fun p hp => ?_⟩
  · have q := h.2.2.2 p hp
    exact ⟨_, _, q.2.2.2.2.1, ((ex p).choose_spec hp).1, by rw [q.2.2.2.1.1]; rfl, by rw [q.2.2.2.1.1, decide_eq_true_eq]⟩
  · have q := h.2.2.2 p hp
    exact ⟨_, _, qP1_t2 hD q, q.2.2.1, ((ex p).choose_spec hp).2, rfl, by rw [decide_eq_true_eq]⟩
theorem cPs_f {A B F : List Nat} {w w' : zW} {n z u v : Nat} {Zf : Nat → zS} {mo : Nat → Bool} (h : cPs w n Zf mo z u v) (h12 : n ≤ 12) (hF : zFr A B F w w') (k : (okc kPo A && okc kPo B) = true) : cPs w' n Zf mo z u v := by
  simp only [Bool.and_eq_true] at k
  intro p hp
  unfold zHas
  rw [hF.2.1 (47 + 4 * p) (okc_m k.1 (kPo_m (by omega) (by omega))) (by omega), hF.2.2.1 (49 + 4 * p) (okc_m k.2 (kPo_m (by omega) (by omega))), hF.2.2.1 (50 + 4 * p) (okc_m k.2 (kPo_m (by omega) (by omega)))]
  exact h p hp
theorem mPs_f {A B F : List Nat} {w w' : zW} {D : zD} {n z u v : Nat} {Zf : Nat → zS} {mo : Nat → Bool} (h : mPs w D n Zf mo z u v) (hF : zFr A B F w w') (k : okc [183, 184, 185] A = true) : mPs w' D n Zf mo z u v := by
  intro p hp
  rw [hF.2.1 183 (okc_m k (by simp)) (by decide), hF.2.1 184 (okc_m k (by simp)) (by decide), hF.2.1 185 (okc_m k (by simp)) (by decide)]
  exact h p hp
theorem s_X11_look {G : zG} {w : zW} {b : zBd} {n p z u v : Nat} {Zf : Nat → zS} {mo : Nat → Bool} (hw : zWf w) (hn : n ≤ 12) (hp : p < n) (hPs : cPs w n Zf mo z u v) (hB : cBs w b) (hL : zLm w 44 z u v) (ho : zlok z u v) :
    zCv G mX11_look [.ref 0, .int (nI p)] w (fun w' => zFr [127, 128, 129] [163] [] w w' ∧ cMe w' b (Zf p) (mo p)) := by
  have hC3 : zCe 163 := ⟨by decide, by decide +kernel⟩
  obtain ⟨S, C, hS, hC, eZ, em⟩ := hPs p hp
  have cs := s_X5_shadow (G := G) hw (show p < 12 by omega) (Or.inl rfl) hC3 (by omega) hS hC hL ho
  rw [eZ] at cs
  generalize Zf p = Z at *
  have hw1 : zWf (zsetS w 163 Z) := zWf_of hw rfl
  have hF1 : zFr [127, 128, 129] [163] [] w (zsetS w 163 Z) := zFr_S (by decide)
  have cm := s_X4_measure (G := G) (Z := Z) hw1 (cBs_f hB hF1 (by decide)) zsetS_has (mo p)
  refine zC_of (lo := [_, _]) kcX11_look (Nat.le_of_ble_eq_true rfl) rfl (fun X hX hE => ?_)
  by_cases q : w.1 (47 + 4 * p) 3 = 4
  · rw [em.mp q] at cm
    rw [zb_t rfl] at cm
    refine zk_aload_n hX dX11_look_0 rfl ?_
    refine zk_getR hX dX11_look_1 flX11_61 k_0 z_0 (hw _ _ (by decide) |>.trans r_0_9) ?_
    refine zk_iload_n hX dX11_look_4 rfl ?_
    refine zk_poses hX hw dX11_look_5 rfl (by first | assumption | omega) ?_
    refine zk_aload_n hX dX11_look_6 rfl ?_
    refine zk_getR hX dX11_look_7 flX11_48 k_0 z_0 (hw _ _ (by decide) |>.trans r_0_6) ?_
    refine zk_aload_n hX dX11_look_10 rfl ?_
    refine zk_getR hX dX11_look_11 flX11_97 k_0 z_0 (hw _ _ (by decide) |>.trans r_0_15) ?_
    refine zk_V2v hX dX11_look_14 kcX5_shadow mlX11_268 viX5_shadow rfl (zPok (by first | assumption | omega)) (zPoz _ (by first | assumption | omega)).1 cs (Nat.le_of_ble_eq_true rfl) rfl ?_
    refine zk_aload_n hX dX11_look_17 rfl ?_
    refine zk_getR hX dX11_look_18 flX11_76 k_0 z_0 (hw1 _ _ (by decide) |>.trans r_0_12) ?_
    refine zk_aload_n hX dX11_look_21 rfl ?_
    refine zk_getR hX dX11_look_22 flX11_68 k_0 z_0 (hw1 _ _ (by decide) |>.trans r_0_11) ?_
    refine zk_aload_n hX dX11_look_25 rfl ?_
    refine zk_getR hX dX11_look_26 flX11_97 k_0 z_0 (hw1 _ _ (by decide) |>.trans r_0_15) ?_
    refine zk_aload_n hX dX11_look_29 rfl ?_
    refine zk_getR hX dX11_look_30 flX11_61 k_0 z_0 (hw1 _ _ (by decide) |>.trans r_0_9) ?_
    refine zk_iload_n hX dX11_look_33 rfl ?_
    refine zk_poses hX hw1 dX11_look_34 rfl (by first | assumption | omega) ?_
    refine zk_getI hX dX11_look_35 flX11_224 (zPok (by first | assumption | omega)) (zPoz _ (by first | assumption | omega)).1 ?_
    rw [zsetS_1]
    refine zk_iconst (v := 4) hX dX11_look_38 (by decide) ?_
    refine zk_icmp_ne (tgt := 46) hX dX11_look_39 (by decide) (fun c39 => ?_) (fun c39 => ?_)
    · exact absurd c39 (fun z => z q)
    refine zk_iconst (v := 1) hX dX11_look_42 (by decide) ?_
    refine zk_goto (tgt := 47) hX dX11_look_43 (by decide) ?_
    refine zk_V3vp hX dX11_look_47 kcX4_measure mlX11_527 viX4_measure rfl k_114 z_114 cm (Nat.le_of_ble_eq_true rfl) rfl (fun w2 q2 => ?_)
    refine zk_vret hX hE rfl ⟨rfl, rfl⟩ dX11_look_50 ⟨rfl, ?_⟩
    rw [em.mp q]
    exact ⟨zFr_t hF1 (zFr_s q2.1 (by decide)), q2.2⟩
  · have e0 := Bool.eq_false_iff.mpr (fun z => q (em.mpr z))
    rw [e0] at cm
    rw [zb_f (by decide)] at cm
    refine zk_aload_n hX dX11_look_0 rfl ?_
    refine zk_getR hX dX11_look_1 flX11_61 k_0 z_0 (hw _ _ (by decide) |>.trans r_0_9) ?_
    refine zk_iload_n hX dX11_look_4 rfl ?_
    refine zk_poses hX hw dX11_look_5 rfl (by first | assumption | omega) ?_
    refine zk_aload_n hX dX11_look_6 rfl ?_
    refine zk_getR hX dX11_look_7 flX11_48 k_0 z_0 (hw _ _ (by decide) |>.trans r_0_6) ?_
    refine zk_aload_n hX dX11_look_10 rfl ?_
    refine zk_getR hX dX11_look_11 flX11_97 k_0 z_0 (hw _ _ (by decide) |>.trans r_0_15) ?_
    refine zk_V2v hX dX11_look_14 kcX5_shadow mlX11_268 viX5_shadow rfl (zPok (by first | assumption | omega)) (zPoz _ (by first | assumption | omega)).1 cs (Nat.le_of_ble_eq_true rfl) rfl ?_
    refine zk_aload_n hX dX11_look_17 rfl ?_
    refine zk_getR hX dX11_look_18 flX11_76 k_0 z_0 (hw1 _ _ (by decide) |>.trans r_0_12) ?_
    refine zk_aload_n hX dX11_look_21 rfl ?_
    refine zk_getR hX dX11_look_22 flX11_68 k_0 z_0 (hw1 _ _ (by decide) |>.trans r_0_11) ?_
    refine zk_aload_n hX dX11_look_25 rfl ?_
    refine zk_getR hX dX11_look_26 flX11_97 k_0 z_0 (hw1 _ _ (by decide) |>.trans r_0_15) ?_
    refine zk_aload_n hX dX11_look_29 rfl ?_
    refine zk_getR hX dX11_look_30 flX11_61 k_0 z_0 (hw1 _ _ (by decide) |>.trans r_0_9) ?_
    refine zk_iload_n hX dX11_look_33 rfl ?_
    refine zk_poses hX hw1 dX11_look_34 rfl (by first | assumption | omega) ?_
    refine zk_getI hX dX11_look_35 flX11_224 (zPok (by first | assumption | omega)) (zPoz _ (by first | assumption | omega)).1 ?_
    rw [zsetS_1]
    refine zk_iconst (v := 4) hX dX11_look_38 (by decide) ?_
    refine zk_icmp_ne (tgt := 46) hX dX11_look_39 (by decide) (fun c39 => ?_) (fun c39 => ?_)
    rotate_left
    · exact absurd c39 q
    refine zk_iconst (v := 0) hX dX11_look_46 (by decide) ?_
    refine zk_V3vp hX dX11_look_47 kcX4_measure mlX11_527 viX4_measure rfl k_114 z_114 cm (Nat.le_of_ble_eq_true rfl) rfl (fun w2 q2 => ?_)
    refine zk_vret hX hE rfl ⟨rfl, rfl⟩ dX11_look_50 ⟨rfl, ?_⟩
    rw [e0]
    exact ⟨zFr_t hF1 (zFr_s q2.1 (by decide)), q2.2⟩
theorem s_X11_guessed {G : zG} {w : zW} {b : zBd} {n l p z u v e a d : Nat} {Zf : Nat → zS} {mo : Nat → Bool} (hw : zWf w) (hn : n ≤ 12) (hp : p < n) (hl : l < 8) (hPs : cPs w n Zf mo z u v) (hB : cBs w b) (hL : zLm w 44 z u v) (ho : zlok z u v) (he : e ≤ 9) (ha : a ≤ 9) (hd : d ≤ 9) (hW : w.1 (116 + l) 0 = nI e ∧ w.1 (116 + l) 1 = nI a ∧ w.1 (116 + l) 2 = nI d) :
    zCi G mX11_guessed [.ref 0, .int (nI l), .int (nI p)] w (fun r w' => r = zoe (zgs b (Zf p) (mo p) e a d) ∧ zFr [114, 127, 128, 129] [163] [] w w' ∧ (∀ i, i ≠ 9 → w'.1 114 i = w.1 114 i) ∧ ∀ q, zgs b (Zf p) (mo p) e a d = some q → w'.1 114 9 = nI (zsw b (Zf p) (mo p) e a d q)) := by
  refine zC_of (lo := [_, _, _, _]) kcX11_guessed (Nat.le_of_ble_eq_true rfl) rfl (fun X hX hE => ?_)
  refine zk_aload_n hX dX11_guessed_0 rfl ?_
  refine zk_iload_n hX dX11_guessed_1 rfl ?_
  refine zk_V1vp hX dX11_guessed_2 kcX11_look mlX11_445 viX11_look rfl k_0 z_0 (s_X11_look hw hn hp hPs hB hL ho) (Nat.le_of_ble_eq_true rfl) rfl (fun w1 q1 => ?_)
  have hw1 := zFr_wf q1.1 hw
  have eW : w1.1 (116 + l) = w.1 (116 + l) := q1.1.2.1 (116 + l) (by simp; omega) (by omega)
  refine zk_aload_n hX dX11_guessed_5 rfl ?_
  refine zk_getR hX dX11_guessed_6 flX11_76 k_0 z_0 (hw1 _ _ (by decide) |>.trans r_0_12) ?_
  refine zk_getR hX dX11_guessed_9 flX11_417 k_114 z_114 (hw1 _ _ (by decide) |>.trans r_114_1) ?_
  refine zk_iload_n hX dX11_guessed_12 rfl ?_
  refine zk_weights hX hw1 dX11_guessed_13 rfl (by first | assumption | omega) ?_
  refine zk_astore_n (lo' := [_, _, _, _]) hX dX11_guessed_14 (Nat.le_of_ble_eq_true rfl) rfl rfl ?_
  refine zk_aload_n hX dX11_guessed_15 rfl ?_
  refine zk_getR hX dX11_guessed_16 flX11_76 k_0 z_0 (hw1 _ _ (by decide) |>.trans r_0_12) ?_
  refine zk_aload_n hX dX11_guessed_19 rfl ?_
  refine zk_getR hX dX11_guessed_20 flX11_68 k_0 z_0 (hw1 _ _ (by decide) |>.trans r_0_11) ?_
  refine zk_aload_n hX dX11_guessed_23 rfl ?_
  refine zk_iconst (v := 0) hX dX11_guessed_24 (by decide) ?_
  refine zk_ialdE hX dX11_guessed_25 (nI_k 0 rfl) (zWrk (by first | assumption | omega)) (zWrz _ (by first | assumption | omega)) (by first | assumption | omega) rfl ?_
  rw [eW, hW.1]
  refine zk_aload_n hX dX11_guessed_26 rfl ?_
  refine zk_iconst (v := 1) hX dX11_guessed_27 (by decide) ?_
  refine zk_ialdE hX dX11_guessed_28 (nI_k 1 rfl) (zWrk (by first | assumption | omega)) (zWrz _ (by first | assumption | omega)) (by first | assumption | omega) rfl ?_
  rw [eW, hW.2.1]
  refine zk_aload_n hX dX11_guessed_29 rfl ?_
  refine zk_iconst (v := 2) hX dX11_guessed_30 (by decide) ?_
  refine zk_ialdE hX dX11_guessed_31 (nI_k 2 rfl) (zWrk (by first | assumption | omega)) (zWrz _ (by first | assumption | omega)) (by first | assumption | omega) rfl ?_
  rw [eW, hW.2.2]
  refine zk_V4ip hX dX11_guessed_32 kcX4_guessBy mlX11_531 viX4_guessBy rfl k_114 z_114 (s_X4_guessBy hw1 (cBs_f hB q1.1 (by decide)) q1.2 he ha hd) (Nat.le_of_ble_eq_true rfl) rfl (fun r2 w2 q2 => ?_)
  refine zk_iret hX hE rfl ⟨rfl, rfl⟩ dX11_guessed_35 ⟨_, rfl, ?_⟩
  exact ⟨q2.1, zFr_t (zFr_s q1.1 (by decide)) (zFr_s q2.2.1 (by decide)), fun i hi => by rw [q2.2.2.1 i hi, q1.1.2.1 114 (by decide) (by decide)], q2.2.2.2⟩
theorem s_X12_guessOf {G : zG} {w : zW} {D : zD} {b : zBd} {n p z u v e a d : Nat} {Zf : Nat → zS} {mo : Nat → Bool} (hw : zWf w) (hM : mHd w D) (hD : zDok D) (hn : n ≤ 12) (hp : p < n) (hPs : mPs w D n Zf mo z u v) (hB : mBs w b) (hl : mLm w z u v) (ho : zlok z u v) (he : e ≤ 9) (ha : a ≤ 9) (hd : d ≤ 9) :
    zCi G mX12_guessOf [.ref 166, .int (nI p), .int (nI e), .int (nI a), .int (nI d)] w (fun r w' => r = zoe (zgs b (Zf p) (mo p) e a d) ∧ zFr [179, 180, 181, 182] [] [29, 57] w w' ∧ ∀ q, zgs b (Zf p) (mo p) e a d = some q → w'.1 166 57 = nI (zsw b (Zf p) (mo p) e a d q)) := by
  obtain ⟨t, C, hT, ht, hC, eZ, em⟩ := hPs p hp
  have cs := s_X12_throwPose (G := G) (C := C) hw hM hD (show p < 12 by omega) hT ht hl ho hC
  rw [eZ] at cs
  unfold zgs
  generalize Zf p = Z at *
  generalize mo p = m0 at *
  generalize eF : zsw b Z m0 e a d = F
  have hF4 : ∀ k, F k ≤ 4000 := fun k => by rw [← eF]; exact zsw_le he ha hd
  refine zC_of (lo := [_, _, _, _, _, _, _, _, _]) kcX12_guessOf (Nat.le_of_ble_eq_true rfl) rfl (fun X hX hE => ?_)
  have loop : ∀ m i w1 (a7 a8 : Value), i + m = 6 → zFr [179, 180, 181, 182] [] [29, 57] w w1 → zMd w1 Z → (∀ q, zbst (bT b) F i = some q → w1.1 166 57 = nI (F q)) → zk0 G X mX12_guessOf 12 [.ref 166, .int (nI p), .int (nI e), .int (nI a), .int (nI d), .int (zoe (zbst (bT b) F i)), .int (nI i), a7, a8] [] w1 := by
    intro m
    induction m with
    | zero =>
      intro i w1 a7 a8 hi hF hMd h2
      obtain rfl : i = 6 := by omega
      have hw1 := zFr_wf hF hw
      refine zk_iload hX dX12_guessOf_12 rfl ?_
      refine zk_bipush (v := 6) hX dX12_guessOf_14 (by decide) ?_
      refine zk_icmp_ge (tgt := 132) hX dX12_guessOf_16 (by decide) (fun c16 => ?_) (fun c16 => ?_)
      rotate_left
      · exact absurd (by decide) c16
      refine zk_iload hX dX12_guessOf_132 rfl ?_
      refine zk_iret hX hE rfl ⟨rfl, rfl⟩ dX12_guessOf_134 ⟨_, rfl, ?_⟩
      exact ⟨rfl, hF, h2⟩
    | succ m ih =>
      intro i w1 a7 a8 hi hF hMd h2
      have hw1 := zFr_wf hF hw
      have hi6 : i < 6 := by omega
      have hB1 := mBs_f hB hF (by decide)
      obtain ⟨B1, B2, B3⟩ := hB1 i hi6
      have g4 : e * zmis (bM b i) Z + a * zovr (bM b i) (bY b i) Z + d * zul b m0 i = F i := by rw [← eF]; rfl
      have h9 := fun w2 a7 a8 => ih (i + 1) w2 a7 a8 (by omega)
      have f1 := hF4 i
      have put : ∀ (a7 a8 : Value), zbst (bT b) F (i + 1) = some i → zk0 G X mX12_guessOf 12 [.ref 166, .int (nI p), .int (nI e), .int (nI a), .int (nI d), .int (nI i), .int (nI (i + 1)), a7, a8] [] (zsi w1 166 57 (nI (F i))) := by
        intro a7 a8 q
        have h8 := h9 (zsi w1 166 57 (nI (F i))) a7 a8 (zFr_t hF (zFr_m (by decide))) (zMd_o hMd rfl) (fun r hr => by
          rw [q] at hr
          cases hr
          rw [zsi_1, if_pos ⟨rfl, rfl⟩])
        rw [q] at h8
        exact h8
      have tail : ∀ (x : Int32) (a8 : Value), zk0 G X mX12_guessOf 88 [.ref 166, .int (nI p), .int (nI e), .int (nI a), .int (nI d), .int (zoe (zbst (bT b) F i)), .int (nI i), .int x, a8] [.int (nI (F i))] w1 := by
        intro x a8
        by_cases ht : bT b i = true
        · rcases zbst_ok (bT b) F i with ⟨en, _⟩ | ⟨c, en, _⟩
          · have en1 := zbst_n ht en
            rw [en]
            refine zk_istore (lo' := [_, _, _, _, _, _, _, _, _]) hX dX12_guessOf_88 (Nat.le_of_ble_eq_true rfl) rfl rfl ?_
            refine zk_aload_n hX dX12_guessOf_90 rfl ?_
            refine zk_getR hX dX12_guessOf_91 flX12_68 k_166 z_166 (hw1 _ _ (by decide) |>.trans r_166_37) ?_
            refine zk_iload hX dX12_guessOf_94 rfl ?_
            refine zk_zaldE hX dX12_guessOf_96 rfl k_186 z_186 (by first | assumption | omega) rfl ?_
            refine zk_if_eq (tgt := 126) hX dX12_guessOf_97 (by decide) (fun c97 => ?_) (fun c97 => ?_)
            · exact absurd c97 (B2.mpr ht)
            refine zk_iload hX dX12_guessOf_100 rfl ?_
            refine zk_bipush (v := -9) hX dX12_guessOf_102 (by decide) ?_
            refine zk_icmp_eq (tgt := 116) hX dX12_guessOf_104 (by decide) (fun c104 => ?_) (fun c104 => ?_)
            rotate_left
            · exact absurd rfl c104
            refine zk_iload hX dX12_guessOf_116 rfl ?_
            refine zk_istore (lo' := [_, _, _, _, _, _, _, _, _]) hX dX12_guessOf_118 (Nat.le_of_ble_eq_true rfl) rfl rfl ?_
            refine zk_aload_n hX dX12_guessOf_120 rfl ?_
            refine zk_iload hX dX12_guessOf_121 rfl ?_
            refine zk_putI hX dX12_guessOf_123 plX12_387 (fun h => by cases h) k_166 z_166 rfl rfl ?_
            refine zk_iinc (lo' := [_, _, _, _, _, _, _, _, _]) hX dX12_guessOf_126 rfl (by first | exact zinc _ | exact rfl) (Nat.le_of_ble_eq_true rfl) rfl rfl ?_
            refine zk_goto (tgt := 12) hX dX12_guessOf_129 (by decide) ?_
            exact put _ _ en1
          · have en1 := zbst_s ht en
            have f2 := hF4 c
            have e9 := h2 c en
            rw [en]
            refine zk_istore (lo' := [_, _, _, _, _, _, _, _, _]) hX dX12_guessOf_88 (Nat.le_of_ble_eq_true rfl) rfl rfl ?_
            refine zk_aload_n hX dX12_guessOf_90 rfl ?_
            refine zk_getR hX dX12_guessOf_91 flX12_68 k_166 z_166 (hw1 _ _ (by decide) |>.trans r_166_37) ?_
            refine zk_iload hX dX12_guessOf_94 rfl ?_
            refine zk_zaldE hX dX12_guessOf_96 rfl k_186 z_186 (by first | assumption | omega) rfl ?_
            refine zk_if_eq (tgt := 126) hX dX12_guessOf_97 (by decide) (fun c97 => ?_) (fun c97 => ?_)
            · exact absurd c97 (B2.mpr ht)
            refine zk_iload hX dX12_guessOf_100 rfl ?_
            refine zk_bipush (v := -9) hX dX12_guessOf_102 (by decide) ?_
            refine zk_icmp_eq (tgt := 116) hX dX12_guessOf_104 (by decide) (fun c104 => ?_) (fun c104 => ?_)
            · exact absurd c104 (nI_n9 (by have := zbst_lt en; omega))
            refine zk_iload hX dX12_guessOf_107 rfl ?_
            refine zk_aload_n hX dX12_guessOf_109 rfl ?_
            refine zk_getI hX dX12_guessOf_110 flX12_387 k_166 z_166 ?_
            rw [e9]
            refine zk_icmp_ge (tgt := 126) hX dX12_guessOf_113 (by decide) (fun c113 => ?_) (fun c113 => ?_)
            · refine zk_iinc (lo' := [_, _, _, _, _, _, _, _, _]) hX dX12_guessOf_126 rfl (by first | exact zinc _ | exact rfl) (Nat.le_of_ble_eq_true rfl) rfl rfl ?_
              refine zk_goto (tgt := 12) hX dX12_guessOf_129 (by decide) ?_
              first
              | (have q := nI_leD c113 (by omega) (by omega)
                 rw [if_neg (by omega)] at en1
                 have h8 := h9 w1 (.int x) (.int (nI (F i))) hF hMd (fun r hr => by rw [en1] at hr; cases hr; exact e9)
                 rw [en1] at h8
                 exact h8)
              | (have q := nI_ltD c113 (by omega) (by omega)
                 rw [if_pos (by omega)] at en1
                 exact put _ _ en1)
            · refine zk_iload hX dX12_guessOf_116 rfl ?_
              refine zk_istore (lo' := [_, _, _, _, _, _, _, _, _]) hX dX12_guessOf_118 (Nat.le_of_ble_eq_true rfl) rfl rfl ?_
              refine zk_aload_n hX dX12_guessOf_120 rfl ?_
              refine zk_iload hX dX12_guessOf_121 rfl ?_
              refine zk_putI hX dX12_guessOf_123 plX12_387 (fun h => by cases h) k_166 z_166 rfl rfl ?_
              refine zk_iinc (lo' := [_, _, _, _, _, _, _, _, _]) hX dX12_guessOf_126 rfl (by first | exact zinc _ | exact rfl) (Nat.le_of_ble_eq_true rfl) rfl rfl ?_
              refine zk_goto (tgt := 12) hX dX12_guessOf_129 (by decide) ?_
              first
              | (have q := nI_leD c113 (by omega) (by omega)
                 rw [if_neg (by omega)] at en1
                 have h8 := h9 w1 (.int x) (.int (nI (F i))) hF hMd (fun r hr => by rw [en1] at hr; cases hr; exact e9)
                 rw [en1] at h8
                 exact h8)
              | (have q := nI_ltD c113 (by omega) (by omega)
                 rw [if_pos (by omega)] at en1
                 exact put _ _ en1)
        · have en1 := zbst_f (f := F) ht
          refine zk_istore (lo' := [_, _, _, _, _, _, _, _, _]) hX dX12_guessOf_88 (Nat.le_of_ble_eq_true rfl) rfl rfl ?_
          refine zk_aload_n hX dX12_guessOf_90 rfl ?_
          refine zk_getR hX dX12_guessOf_91 flX12_68 k_166 z_166 (hw1 _ _ (by decide) |>.trans r_166_37) ?_
          refine zk_iload hX dX12_guessOf_94 rfl ?_
          refine zk_zaldE hX dX12_guessOf_96 rfl k_186 z_186 (by first | assumption | omega) rfl ?_
          refine zk_if_eq (tgt := 126) hX dX12_guessOf_97 (by decide) (fun c97 => ?_) (fun c97 => ?_)
          rotate_left
          · exact absurd (B2.mp c97) ht
          refine zk_iinc (lo' := [_, _, _, _, _, _, _, _, _]) hX dX12_guessOf_126 rfl (by first | exact zinc _ | exact rfl) (Nat.le_of_ble_eq_true rfl) rfl rfl ?_
          refine zk_goto (tgt := 12) hX dX12_guessOf_129 (by decide) ?_
          have h8 := h9 w1 (.int x) (.int (nI (F i))) hF hMd (by rw [en1]; exact h2)
          rw [en1] at h8
          exact h8
      have rest0 : bV b i = m0 → ∀ a8 : Value, zk0 G X mX12_guessOf 59 [.ref 166, .int (nI p), .int (nI e), .int (nI a), .int (nI d), .int (zoe (zbst (bT b) F i)), .int (nI i), .int 0, a8] [] w1 := by
        intro q a8
        have eu : zul b m0 i = 0 := by unfold zul; rw [if_pos q]
        rw [eu, Nat.mul_zero, Nat.add_zero] at g4
        refine zk_iload_n hX dX12_guessOf_59 rfl ?_
        refine zk_aload_n hX dX12_guessOf_60 rfl ?_
        refine zk_iload hX dX12_guessOf_61 rfl ?_
        refine zk_V1i hX dX12_guessOf_63 kcX12_missedBy mlX12_320 viX12_missedBy rfl k_166 z_166 (s_X12_missedBy hw1 hi6 B1 hMd) (Nat.le_of_ble_eq_true rfl) rfl ?_
        refine zk_imul hX dX12_guessOf_66 ?_
        refine zk_iload_n hX dX12_guessOf_67 rfl ?_
        refine zk_aload_n hX dX12_guessOf_68 rfl ?_
        refine zk_iload hX dX12_guessOf_69 rfl ?_
        refine zk_V1i hX dX12_guessOf_71 kcX12_overBy mlX12_323 viX12_overBy rfl k_166 z_166 (s_X12_overBy hw1 hi6 B1 hMd) (Nat.le_of_ble_eq_true rfl) rfl ?_
        refine zk_imul hX dX12_guessOf_74 ?_
        refine zk_iadd hX dX12_guessOf_75 ?_
        refine zk_iload hX dX12_guessOf_76 rfl ?_
        refine zk_if_eq (tgt := 86) hX dX12_guessOf_78 (by decide) (fun c78 => ?_) (fun c78 => ?_)
        rotate_left
        · exact absurd rfl c78
        refine zk_iconst (v := 0) hX dX12_guessOf_86 (by decide) ?_
        refine zk_iadd hX dX12_guessOf_87 ?_
        rw [nI_mul, nI_mul, nI_add, g4, Int32.add_zero]
        exact tail _ _
      have rest1 : ¬ bV b i = m0 → ∀ a8 : Value, zk0 G X mX12_guessOf 59 [.ref 166, .int (nI p), .int (nI e), .int (nI a), .int (nI d), .int (zoe (zbst (bT b) F i)), .int (nI i), .int 1, a8] [] w1 := by
        intro q a8
        have eu : zul b m0 i = 1 := by unfold zul; rw [if_neg q]
        rw [eu, Nat.mul_one] at g4
        refine zk_iload_n hX dX12_guessOf_59 rfl ?_
        refine zk_aload_n hX dX12_guessOf_60 rfl ?_
        refine zk_iload hX dX12_guessOf_61 rfl ?_
        refine zk_V1i hX dX12_guessOf_63 kcX12_missedBy mlX12_320 viX12_missedBy rfl k_166 z_166 (s_X12_missedBy hw1 hi6 B1 hMd) (Nat.le_of_ble_eq_true rfl) rfl ?_
        refine zk_imul hX dX12_guessOf_66 ?_
        refine zk_iload_n hX dX12_guessOf_67 rfl ?_
        refine zk_aload_n hX dX12_guessOf_68 rfl ?_
        refine zk_iload hX dX12_guessOf_69 rfl ?_
        refine zk_V1i hX dX12_guessOf_71 kcX12_overBy mlX12_323 viX12_overBy rfl k_166 z_166 (s_X12_overBy hw1 hi6 B1 hMd) (Nat.le_of_ble_eq_true rfl) rfl ?_
        refine zk_imul hX dX12_guessOf_74 ?_
        refine zk_iadd hX dX12_guessOf_75 ?_
        refine zk_iload hX dX12_guessOf_76 rfl ?_
        refine zk_if_eq (tgt := 86) hX dX12_guessOf_78 (by decide) (fun c78 => ?_) (fun c78 => ?_)
        · exact absurd c78 (by decide)
        refine zk_iload hX dX12_guessOf_81 rfl ?_
        refine zk_goto (tgt := 87) hX dX12_guessOf_83 (by decide) ?_
        refine zk_iadd hX dX12_guessOf_87 ?_
        rw [nI_mul, nI_mul, nI_add, nI_add, g4]
        exact tail _ _
      have em1 : w1.1 183 (3 * p) = 4 ↔ m0 = true := by rw [hF.2.1 183 (by decide) (by decide)]; exact em
      by_cases v1 : w1.1 189 i = 1
      · have v2 := B3.mp v1
        by_cases v3 : w1.1 183 (3 * p) = 4
        · have v4 := em1.mp v3
          refine zk_iload hX dX12_guessOf_12 rfl ?_
          refine zk_bipush (v := 6) hX dX12_guessOf_14 (by decide) ?_
          refine zk_icmp_ge (tgt := 132) hX dX12_guessOf_16 (by decide) (fun c16 => ?_) (fun c16 => ?_)
          · exact absurd c16 (nI_ge (b := 6) (by omega) (by decide))
          refine zk_aload_n hX dX12_guessOf_19 rfl ?_
          refine zk_getR hX dX12_guessOf_20 flX12_78 k_166 z_166 (hw1 _ _ (by decide) |>.trans r_166_40) ?_
          refine zk_iload hX dX12_guessOf_23 rfl ?_
          refine zk_ialdE hX dX12_guessOf_25 rfl k_189 z_189 (by first | assumption | omega) rfl ?_
          refine zk_iconst (v := 1) hX dX12_guessOf_26 (by decide) ?_
          refine zk_icmp_ne (tgt := 34) hX dX12_guessOf_27 (by decide) (fun c27 => ?_) (fun c27 => ?_)
          · exact absurd c27 (fun z => z v1)
          refine zk_iconst (v := 1) hX dX12_guessOf_30 (by decide) ?_
          refine zk_goto (tgt := 35) hX dX12_guessOf_31 (by decide) ?_
          refine zk_aload_n hX dX12_guessOf_35 rfl ?_
          refine zk_iload_n hX dX12_guessOf_36 rfl ?_
          refine zk_V1i hX dX12_guessOf_37 kcX12_kind mlX12_281 viX12_kind rfl k_166 z_166 (s_X12_kind hw1 (by omega)) (Nat.le_of_ble_eq_true rfl) rfl ?_
          refine zk_iconst (v := 4) hX dX12_guessOf_40 (by decide) ?_
          refine zk_icmp_ne (tgt := 48) hX dX12_guessOf_41 (by decide) (fun c41 => ?_) (fun c41 => ?_)
          · exact absurd c41 (fun z => z v3)
          refine zk_iconst (v := 1) hX dX12_guessOf_44 (by decide) ?_
          refine zk_goto (tgt := 49) hX dX12_guessOf_45 (by decide) ?_
          refine zk_icmp_eq (tgt := 56) hX dX12_guessOf_49 (by decide) (fun c49 => ?_) (fun c49 => ?_)
          rotate_left
          · exact absurd rfl c49
          refine zk_iconst (v := 0) hX dX12_guessOf_56 (by decide) ?_
          refine zk_istore (lo' := [_, _, _, _, _, _, _, _, _]) hX dX12_guessOf_57 (Nat.le_of_ble_eq_true rfl) rfl rfl ?_
          exact rest0 (v2.trans v4.symm) _
        · have v4 := Bool.eq_false_iff.mpr (fun z => v3 (em1.mpr z))
          refine zk_iload hX dX12_guessOf_12 rfl ?_
          refine zk_bipush (v := 6) hX dX12_guessOf_14 (by decide) ?_
          refine zk_icmp_ge (tgt := 132) hX dX12_guessOf_16 (by decide) (fun c16 => ?_) (fun c16 => ?_)
          · exact absurd c16 (nI_ge (b := 6) (by omega) (by decide))
          refine zk_aload_n hX dX12_guessOf_19 rfl ?_
          refine zk_getR hX dX12_guessOf_20 flX12_78 k_166 z_166 (hw1 _ _ (by decide) |>.trans r_166_40) ?_
          refine zk_iload hX dX12_guessOf_23 rfl ?_
          refine zk_ialdE hX dX12_guessOf_25 rfl k_189 z_189 (by first | assumption | omega) rfl ?_
          refine zk_iconst (v := 1) hX dX12_guessOf_26 (by decide) ?_
          refine zk_icmp_ne (tgt := 34) hX dX12_guessOf_27 (by decide) (fun c27 => ?_) (fun c27 => ?_)
          · exact absurd c27 (fun z => z v1)
          refine zk_iconst (v := 1) hX dX12_guessOf_30 (by decide) ?_
          refine zk_goto (tgt := 35) hX dX12_guessOf_31 (by decide) ?_
          refine zk_aload_n hX dX12_guessOf_35 rfl ?_
          refine zk_iload_n hX dX12_guessOf_36 rfl ?_
          refine zk_V1i hX dX12_guessOf_37 kcX12_kind mlX12_281 viX12_kind rfl k_166 z_166 (s_X12_kind hw1 (by omega)) (Nat.le_of_ble_eq_true rfl) rfl ?_
          refine zk_iconst (v := 4) hX dX12_guessOf_40 (by decide) ?_
          refine zk_icmp_ne (tgt := 48) hX dX12_guessOf_41 (by decide) (fun c41 => ?_) (fun c41 => ?_)
          rotate_left
          · exact absurd c41 v3
          refine zk_iconst (v := 0) hX dX12_guessOf_48 (by decide) ?_
          refine zk_icmp_eq (tgt := 56) hX dX12_guessOf_49 (by decide) (fun c49 => ?_) (fun c49 => ?_)
          · exact absurd c49 (by decide)
          refine zk_iconst (v := 1) hX dX12_guessOf_52 (by decide) ?_
          refine zk_goto (tgt := 57) hX dX12_guessOf_53 (by decide) ?_
          refine zk_istore (lo' := [_, _, _, _, _, _, _, _, _]) hX dX12_guessOf_57 (Nat.le_of_ble_eq_true rfl) rfl rfl ?_
          exact rest1 (fun z => by rw [v2, v4] at z; cases z) _
      · have v2 := Bool.eq_false_iff.mpr (fun z => v1 (B3.mpr z))
        by_cases v3 : w1.1 183 (3 * p) = 4
        · have v4 := em1.mp v3
          refine zk_iload hX dX12_guessOf_12 rfl ?_
          refine zk_bipush (v := 6) hX dX12_guessOf_14 (by decide) ?_
          refine zk_icmp_ge (tgt := 132) hX dX12_guessOf_16 (by decide) (fun c16 => ?_) (fun c16 => ?_)
          · exact absurd c16 (nI_ge (b := 6) (by omega) (by decide))
          refine zk_aload_n hX dX12_guessOf_19 rfl ?_
          refine zk_getR hX dX12_guessOf_20 flX12_78 k_166 z_166 (hw1 _ _ (by decide) |>.trans r_166_40) ?_
          refine zk_iload hX dX12_guessOf_23 rfl ?_
          refine zk_ialdE hX dX12_guessOf_25 rfl k_189 z_189 (by first | assumption | omega) rfl ?_
          refine zk_iconst (v := 1) hX dX12_guessOf_26 (by decide) ?_
          refine zk_icmp_ne (tgt := 34) hX dX12_guessOf_27 (by decide) (fun c27 => ?_) (fun c27 => ?_)
          rotate_left
          · exact absurd c27 v1
          refine zk_iconst (v := 0) hX dX12_guessOf_34 (by decide) ?_
          refine zk_aload_n hX dX12_guessOf_35 rfl ?_
          refine zk_iload_n hX dX12_guessOf_36 rfl ?_
          refine zk_V1i hX dX12_guessOf_37 kcX12_kind mlX12_281 viX12_kind rfl k_166 z_166 (s_X12_kind hw1 (by omega)) (Nat.le_of_ble_eq_true rfl) rfl ?_
          refine zk_iconst (v := 4) hX dX12_guessOf_40 (by decide) ?_
          refine zk_icmp_ne (tgt := 48) hX dX12_guessOf_41 (by decide) (fun c41 => ?_) (fun c41 => ?_)
          · exact absurd c41 (fun z => z v3)
          refine zk_iconst (v := 1) hX dX12_guessOf_44 (by decide) ?_
          refine zk_goto (tgt := 49) hX dX12_guessOf_45 (by decide) ?_
          refine zk_icmp_eq (tgt := 56) hX dX12_guessOf_49 (by decide) (fun c49 => ?_) (fun c49 => ?_)
          · exact absurd c49 (by decide)
          refine zk_iconst (v := 1) hX dX12_guessOf_52 (by decide) ?_
          refine zk_goto (tgt := 57) hX dX12_guessOf_53 (by decide) ?_
          refine zk_istore (lo' := [_, _, _, _, _, _, _, _, _]) hX dX12_guessOf_57 (Nat.le_of_ble_eq_true rfl) rfl rfl ?_
          exact rest1 (fun z => by rw [v2, v4] at z; cases z) _
        · have v4 := Bool.eq_false_iff.mpr (fun z => v3 (em1.mpr z))
          refine zk_iload hX dX12_guessOf_12 rfl ?_
          refine zk_bipush (v := 6) hX dX12_guessOf_14 (by decide) ?_
          refine zk_icmp_ge (tgt := 132) hX dX12_guessOf_16 (by decide) (fun c16 => ?_) (fun c16 => ?_)
          · exact absurd c16 (nI_ge (b := 6) (by omega) (by decide))
          refine zk_aload_n hX dX12_guessOf_19 rfl ?_
          refine zk_getR hX dX12_guessOf_20 flX12_78 k_166 z_166 (hw1 _ _ (by decide) |>.trans r_166_40) ?_
          refine zk_iload hX dX12_guessOf_23 rfl ?_
          refine zk_ialdE hX dX12_guessOf_25 rfl k_189 z_189 (by first | assumption | omega) rfl ?_
          refine zk_iconst (v := 1) hX dX12_guessOf_26 (by decide) ?_
          refine zk_icmp_ne (tgt := 34) hX dX12_guessOf_27 (by decide) (fun c27 => ?_) (fun c27 => ?_)
          rotate_left
          · exact absurd c27 v1
          refine zk_iconst (v := 0) hX dX12_guessOf_34 (by decide) ?_
          refine zk_aload_n hX dX12_guessOf_35 rfl ?_
          refine zk_iload_n hX dX12_guessOf_36 rfl ?_
          refine zk_V1i hX dX12_guessOf_37 kcX12_kind mlX12_281 viX12_kind rfl k_166 z_166 (s_X12_kind hw1 (by omega)) (Nat.le_of_ble_eq_true rfl) rfl ?_
          refine zk_iconst (v := 4) hX dX12_guessOf_40 (by decide) ?_
          refine zk_icmp_ne (tgt := 48) hX dX12_guessOf_41 (by decide) (fun c41 => ?_) (fun c41 => ?_)
          rotate_left
          · exact absurd c41 v3
          refine zk_iconst (v := 0) hX dX12_guessOf_48 (by decide) ?_
          refine zk_icmp_eq (tgt := 56) hX dX12_guessOf_49 (by decide) (fun c49 => ?_) (fun c49 => ?_)
          rotate_left
          · exact absurd rfl c49
          refine zk_iconst (v := 0) hX dX12_guessOf_56 (by decide) ?_
          refine zk_istore (lo' := [_, _, _, _, _, _, _, _, _]) hX dX12_guessOf_57 (Nat.le_of_ble_eq_true rfl) rfl rfl ?_
          exact rest0 (v2.trans v4.symm) _
  refine zk_aload_n hX dX12_guessOf_0 rfl ?_
  refine zk_iload_n hX dX12_guessOf_1 rfl ?_
  refine zk_V1vp hX dX12_guessOf_2 kcX12_throwPose mlX12_314 viX12_throwPose rfl k_166 z_166 cs (Nat.le_of_ble_eq_true rfl) rfl (fun w1 q1 => ?_)
  have hw1 := zFr_wf q1.1 hw
  refine zk_bipush (v := -9) hX dX12_guessOf_5 (by decide) ?_
  refine zk_istore (lo' := [_, _, _, _, _, _, _, _, _]) hX dX12_guessOf_7 (Nat.le_of_ble_eq_true rfl) rfl rfl ?_
  refine zk_iconst (v := 0) hX dX12_guessOf_9 (by decide) ?_
  refine zk_istore (lo' := [_, _, _, _, _, _, _, _, _]) hX dX12_guessOf_10 (Nat.le_of_ble_eq_true rfl) rfl rfl ?_
  exact loop 6 0 w1 _ _ (by omega) (zFr_s q1.1 (by decide)) q1.2 (fun q hq => by cases hq)
