/-! where: the model's, and the call -/
theorem s_X12_where_bad {G : zG} {w : zW} {n : Nat} (hn : n ≤ 12) (hP : w.1 166 33 = nI n) (p k : Int32) (h : ¬ ((0 ≤ p ∧ p < nI n) ∧ (0 ≤ k ∧ k < 6))) : zEi G mX12_where [.ref 166, .int p, .int k] w (-1) w := by
  refine zC_of (lo := [_, _, _, _, _, _, _, _]) kcX12_where (Nat.le_of_ble_eq_true rfl) rfl (fun X hX hE => ?_)
  refine zk_aload_n hX dX12_where_0 rfl ?_
  refine zk_iload_n hX dX12_where_1 rfl ?_
  refine zk_V1i hX dX12_where_2 kcX12_isPose mlX12_290 viX12_isPose rfl k_166 z_166 (s_X12_isPose (n := n) (by omega) hP _) (Nat.le_of_ble_eq_true rfl) rfl ?_
  refine zk_if_eqB (tgt := 15) hX dX12_where_5 (by decide) (fun c5 => ?_) (fun c5 => ?_)
  · refine zk_iconst (v := -1) hX dX12_where_15 (by decide) ?_
    refine zk_iret hX hE rfl ⟨rfl, rfl⟩ dX12_where_16 ⟨_, rfl, ?_⟩
    exact ⟨rfl, rfl⟩
  · refine zk_iload_n hX dX12_where_8 rfl ?_
    refine zk_S1i hX dX12_where_9 kcX12_isBeast mlX12_317 smX12_isBeast rfl (s_X12_isBeast' _) (Nat.le_of_ble_eq_true rfl) rfl ?_
    refine zk_if_neB (tgt := 17) hX dX12_where_12 (by decide) (fun c12 => ?_) (fun c12 => ?_)
    · exact absurd c12 (fun q => h ⟨by first | exact c5 | exact Decidable.not_not.mp c5, by grind⟩)
    refine zk_iconst (v := -1) hX dX12_where_15 (by decide) ?_
    refine zk_iret hX hE rfl ⟨rfl, rfl⟩ dX12_where_16 ⟨_, rfl, ?_⟩
    exact ⟨rfl, rfl⟩
theorem s_X12_where_m {G : zG} {w : zW} {n p k : Nat} (hw : zWf w) (hn : n ≤ 12) (hP : w.1 166 33 = nI n) (hp : p < n) (hk : k < 6) (ht : w.1 186 k = 0) : zEi G mX12_where [.ref 166, .int (nI p), .int (nI k)] w (-3) (mfind w 1) := by
  refine zC_of (lo := [_, _, _, _, _, _, _, _]) kcX12_where (Nat.le_of_ble_eq_true rfl) rfl (fun X hX hE => ?_)
  refine zk_aload_n hX dX12_where_0 rfl ?_
  refine zk_iload_n hX dX12_where_1 rfl ?_
  refine zk_V1i hX dX12_where_2 kcX12_isPose mlX12_290 viX12_isPose rfl k_166 z_166 (s_X12_isPose (n := n) (by omega) hP _) (Nat.le_of_ble_eq_true rfl) rfl ?_
  refine zk_if_eqB (tgt := 15) hX dX12_where_5 (by decide) (fun c5 => ?_) (fun c5 => ?_)
  · exact absurd c5 (not_not_intro ⟨nI_pos' (by omega), nI_lt hp (by omega)⟩)
  refine zk_iload_n hX dX12_where_8 rfl ?_
  refine zk_S1i hX dX12_where_9 kcX12_isBeast mlX12_317 smX12_isBeast rfl (s_X12_isBeast' _) (Nat.le_of_ble_eq_true rfl) rfl ?_
  refine zk_if_neB (tgt := 17) hX dX12_where_12 (by decide) (fun c12 => ?_) (fun c12 => ?_)
  rotate_left
  · exact absurd (zrle (n := 5) (by omega)) c12
  refine zk_aload_n hX dX12_where_17 rfl ?_
  refine zk_getR hX dX12_where_18 flX12_68 k_166 z_166 (hw _ _ (by decide) |>.trans r_166_37) ?_
  refine zk_iload_n hX dX12_where_21 rfl ?_
  refine zk_zaldE hX dX12_where_22 rfl k_186 z_186 (by first | assumption | omega) rfl ?_
  refine zk_if_ne (tgt := 32) hX dX12_where_23 (by decide) (fun c23 => ?_) (fun c23 => ?_)
  · exact absurd c23 (fun q => q ht)
  refine zk_aload_n hX dX12_where_26 rfl ?_
  refine zk_iconst (v := 1) hX dX12_where_27 (by decide) ?_
  refine zk_V1i hX dX12_where_28 kcX12_meets mlX12_145 viX12_meets rfl k_166 z_166 (s_X12_meets hw _ (by decide)) (Nat.le_of_ble_eq_true rfl) rfl ?_
  refine zk_iret hX hE rfl ⟨rfl, rfl⟩ dX12_where_31 ⟨_, rfl, ?_⟩
  exact ⟨rfl, rfl⟩
theorem mLm_n {w : zW} (z u v : Nat) : mLm (mbecome w (nI z) (nI u - 3) (nI v - 3)) z u v := by
  unfold mLm mbecome
  refine ⟨?_, ?_, ?_⟩
  · rw [zsi_1, if_neg (by omega), zsi_1, if_neg (by omega), zsi_1, if_pos ⟨rfl, rfl⟩]
  · rw [zsi_1, if_neg (by omega), zsi_1, if_pos ⟨rfl, rfl⟩]
  · rw [zsi_1, if_pos ⟨rfl, rfl⟩]
theorem mbecome_fr {A B F : List Nat} {w : zW} {x y t : Int32} (h : 25 ∈ F) (h2 : 26 ∈ F) (h3 : 27 ∈ F) : zFr A B F w (mbecome w x y t) := zFr_t (zFr_m h) (zFr_t (zFr_m h2) (zFr_m h3))
theorem s_X12_where {G : zG} {w : zW} {D : zD} {n p k z u v : Nat} {t : Nat → Int32} {C M Y : zS} (hw : zWf w) (hM : mHd w D) (hD : zDok D) (hn : n ≤ 12) (hP : w.1 166 33 = nI n) (hp : p < n) (hk : k < 6) (h1 : ¬ w.1 186 k = 0) (hT : zT2 D t) (ht : ∀ j, j < dJ D → w.1 184 (6 * p + j) = t j) (hl : mLm w z u v) (ho : zlok z u v) (hC : ∀ y, y < 10 → w.1 185 (10 * p + y) = nI (zline C y)) (hB : mBe w k M Y) :
    zCi G mX12_where [.ref 166, .int (nI p), .int (nI k)] w (fun a w' => a = zoe ((zbst (fun _ => true) (lF (zdkL zno (zP D t (-1))) (w.1 183 (3 * p)) C M Y) 98).map (lF (zdkL zno (zP D t (-1))) (w.1 183 (3 * p)) C M Y)) ∧ zFr [179, 180, 181, 182] [] [2, 25, 26, 27, 29] w w' ∧ mLm w' z u v ∧ w'.1 166 2 = lB (zbst (fun _ => true) (lF (zdkL zno (zP D t (-1))) (w.1 183 (3 * p)) C M Y) 98)) := by
  generalize eF : lF (zdkL zno (zP D t (-1))) (w.1 183 (3 * p)) C M Y = F
  have hF240 : ∀ i, F i ≤ 240 := fun i => by rw [← eF]; exact lF_le
  have hn9 : ∀ b, ¬ nI (F b) = -9 := fun b => nI_n9 (by have := hF240 b; omega)
  refine zC_of (lo := [_, _, _, _, _, _, _, _]) kcX12_where (Nat.le_of_ble_eq_true rfl) rfl (fun X hX hE => ?_)
  have fin : ∀ w1 (a6 a7 : Value), zFr [179, 180, 181, 182] [] [2, 25, 26, 27, 29] w w1 → zk0 G X mX12_where 130 [.ref 166, .int (nI p), .int (nI k), .int (nI (lc z u v)), .int (zoe ((zbst (fun _ => true) F 98).map F)), .int (lB (zbst (fun _ => true) F 98)), a6, a7] [] w1 := by
    intro w1 a6 a7 hF
    have hw1 := zFr_wf hF hw
    refine zk_aload_n hX dX12_where_130 rfl ?_
    refine zk_iload_n hX dX12_where_131 rfl ?_
    refine zk_bipush (v := 100) hX dX12_where_132 (by decide) ?_
    refine zk_idiv hX dX12_where_134 (by decide) ?_
    rw [lc_z ho]
    refine zk_iload_n hX dX12_where_135 rfl ?_
    refine zk_bipush (v := 10) hX dX12_where_136 (by decide) ?_
    refine zk_idiv hX dX12_where_138 (by decide) ?_
    refine zk_bipush (v := 10) hX dX12_where_139 (by decide) ?_
    refine zk_irem hX dX12_where_141 (by decide) ?_
    refine zk_iconst (v := 3) hX dX12_where_142 (by decide) ?_
    refine zk_isub hX dX12_where_143 ?_
    rw [lc_u ho]
    refine zk_iload_n hX dX12_where_144 rfl ?_
    refine zk_bipush (v := 10) hX dX12_where_145 (by decide) ?_
    refine zk_irem hX dX12_where_147 (by decide) ?_
    refine zk_iconst (v := 3) hX dX12_where_148 (by decide) ?_
    refine zk_isub hX dX12_where_149 ?_
    rw [lc_v ho]
    refine zk_V3v hX dX12_where_150 kcX12_layLamp mlX12_221 viX12_layLamp rfl k_166 z_166 (s_X12_layLamp _ _ _) (Nat.le_of_ble_eq_true rfl) rfl ?_
    refine zk_aload_n hX dX12_where_153 rfl ?_
    refine zk_iload hX dX12_where_154 rfl ?_
    refine zk_iload hX dX12_where_156 rfl ?_
    refine zk_V2i hX dX12_where_158 kcX12_tells mlX12_153 viX12_tells rfl k_166 z_166 (s_X12_tells _ _) (Nat.le_of_ble_eq_true rfl) rfl ?_
    refine zk_iret hX hE rfl ⟨rfl, rfl⟩ dX12_where_161 ⟨_, rfl, ?_⟩
    refine ⟨rfl, zFr_t hF (zFr_t (mbecome_fr (by decide) (by decide) (by decide)) (zFr_m (by decide))), mLm_o (mLm_n (w := w1) z u v) ⟨?_, ?_, ?_⟩, by rw [zsi_1, if_pos ⟨rfl, rfl⟩]⟩
    · rw [zsi_1, if_neg (by omega)]
    · rw [zsi_1, if_neg (by omega)]
    · rw [zsi_1, if_neg (by omega)]
  have inner : ∀ b0, b0 < 2 → (∀ w1 (a7 : Value), zFr [179, 180, 181, 182] [] [2, 25, 26, 27, 29] w w1 → zk0 G X mX12_where 124 [.ref 166, .int (nI p), .int (nI k), .int (nI (lc z u v)), .int (zoe ((zbst (fun _ => true) F (49 * b0 + 49)).map F)), .int (lB (zbst (fun _ => true) F (49 * b0 + 49))), .int (nI (b0 + 1)), a7] [] w1) →
      ∀ m a w1, a + m = 49 → zFr [179, 180, 181, 182] [] [2, 25, 26, 27, 29] w w1 → zk0 G X mX12_where 56 [.ref 166, .int (nI p), .int (nI k), .int (nI (lc z u v)), .int (zoe ((zbst (fun _ => true) F (49 * b0 + a)).map F)), .int (lB (zbst (fun _ => true) F (49 * b0 + a))), .int (nI (b0 + 1)), .int (nI a)] [] w1 := by
    intro b0 hb0 kk m
    induction m with
    | zero =>
      intro a w1 ha hF
      obtain rfl : a = 49 := by omega
      have hw1 := zFr_wf hF hw
      refine zk_iload hX dX12_where_56 rfl ?_
      refine zk_bipush (v := 49) hX dX12_where_58 (by decide) ?_
      refine zk_icmp_ge (tgt := 124) hX dX12_where_60 (by decide) (fun c60 => ?_) (fun c60 => ?_)
      rotate_left
      · exact absurd (by decide) c60
      exact kk w1 _ hF
    | succ m ih =>
      intro a w1 ha hF
      have hw1 := zFr_wf hF hw
      have h9 := fun w2 => ih (a + 1) w2 (by omega)
      rw [show 49 * b0 + (a + 1) = (49 * b0 + a) + 1 by omega] at h9
      have e1 : lz (49 * b0 + a) = b0 + 1 := by unfold lz; omega
      have e2 : lu (49 * b0 + a) = a / 7 := by unfold lu; omega
      have e3 : lv (49 * b0 + a) = a % 7 := by unfold lv; omega
      generalize eL : mbecome w1 (nI (b0 + 1)) (nI (a / 7) - 3) (nI (a % 7) - 3) = w2
      have hL2 : mLm w2 (lz (49 * b0 + a)) (lu (49 * b0 + a)) (lv (49 * b0 + a)) := by rw [← eL, e1, e2, e3]; exact mLm_n _ _ _
      have hF2 : zFr [179, 180, 181, 182] [] [2, 25, 26, 27, 29] w w2 := by rw [← eL]; exact zFr_t hF (mbecome_fr (by decide) (by decide) (by decide))
      have hw2 := zFr_wf hF2 hw
      have hM2 := mHd_f hM hF2 (by decide)
      have cb : zEv G mX12_layLamp [.ref 166, .int (nI (b0 + 1)), .int (nI (a / 7) - 3), .int (nI (a % 7) - 3)] w1 w2 := by rw [← eL]; exact s_X12_layLamp _ _ _
      have cs := s_X12_throwPose (G := G) (C := C) hw2 hM2 hD (show p < 12 by omega) hT (fun j hj => by rw [hF2.2.1 184 (by decide) (by decide)]; exact ht j hj) hL2 (l_ok (show 49 * b0 + a < 98 by omega)) (fun y hy => by rw [hF2.2.1 185 (by decide) (by decide)]; exact hC y hy)
      rw [hF2.2.1 183 (by decide) (by decide)] at cs
      generalize eZ : zshd (lz (49 * b0 + a)) (lu (49 * b0 + a)) (lv (49 * b0 + a)) (zP D t (-1)) (w.1 183 (3 * p)) C = Z at cs
      have eo : zofB M Y Z = F (49 * b0 + a) := by rw [← eF, ← eZ]; rfl
      generalize 49 * b0 + a = i at *
      rcases zbst_ok (fun _ => true) F i with ⟨e, _⟩ | ⟨b, e, _⟩
      · rw [e]
        rw [zbst_n (P := fun _ => true) rfl e] at h9
        refine zk_iload hX dX12_where_56 rfl ?_
        refine zk_bipush (v := 49) hX dX12_where_58 (by decide) ?_
        refine zk_icmp_ge (tgt := 124) hX dX12_where_60 (by decide) (fun c60 => ?_) (fun c60 => ?_)
        · exact absurd c60 (nI_ge (b := 49) (by omega) (by decide))
        refine zk_aload_n hX dX12_where_63 rfl ?_
        refine zk_iload hX dX12_where_64 rfl ?_
        refine zk_iload hX dX12_where_66 rfl ?_
        refine zk_bipush (v := 7) hX dX12_where_68 (by decide) ?_
        refine zk_idiv hX dX12_where_70 (by decide) ?_
        rw [show (7 : Int32) = nI 7 from rfl, nI_div (by omega) (by decide)]
        refine zk_iconst (v := 3) hX dX12_where_71 (by decide) ?_
        refine zk_isub hX dX12_where_72 ?_
        refine zk_iload hX dX12_where_73 rfl ?_
        refine zk_bipush (v := 7) hX dX12_where_75 (by decide) ?_
        refine zk_irem hX dX12_where_77 (by decide) ?_
        rw [show (7 : Int32) = nI 7 from rfl, nI_rem (by omega) (by decide)]
        refine zk_iconst (v := 3) hX dX12_where_78 (by decide) ?_
        refine zk_isub hX dX12_where_79 ?_
        refine zk_V3v hX dX12_where_80 kcX12_layLamp mlX12_221 viX12_layLamp rfl k_166 z_166 cb (Nat.le_of_ble_eq_true rfl) rfl ?_
        refine zk_aload_n hX dX12_where_83 rfl ?_
        refine zk_iload_n hX dX12_where_84 rfl ?_
        refine zk_V1vp hX dX12_where_85 kcX12_throwPose mlX12_314 viX12_throwPose rfl k_166 z_166 cs (Nat.le_of_ble_eq_true rfl) rfl (fun w3 q3 => ?_)
        obtain ⟨k1, k2⟩ := q3
        have hw3 := zFr_wf k1 hw2
        have hB3 : mBe w3 k M Y := mBe_o hB ⟨by rw [k1.2.1 187 (by decide) (by decide), hF2.2.1 187 (by decide) (by decide)], by rw [k1.2.1 188 (by decide) (by decide), hF2.2.1 188 (by decide) (by decide)]⟩
        have hF3 : zFr [179, 180, 181, 182] [] [2, 25, 26, 27, 29] w w3 := zFr_t hF2 (zFr_s k1 (by decide))
        have ec : zcode (w3.1 166 25) (w3.1 166 26) (w3.1 166 27) = nI (lc (lz i) (lu i) (lv i)) := (by rw [k1.2.2.2 25 (by decide), k1.2.2.2 26 (by decide), k1.2.2.2 27 (by decide), hL2.1, hL2.2.1, hL2.2.2, zcode_lc])
        refine zk_iload hX dX12_where_88 rfl ?_
        refine zk_bipush (v := -9) hX dX12_where_90 (by decide) ?_
        refine zk_icmp_eq (tgt := 105) hX dX12_where_92 (by decide) (fun c92 => ?_) (fun c92 => ?_)
        rotate_left
        · exact absurd rfl c92
        refine zk_aload_n hX dX12_where_105 rfl ?_
        refine zk_iload_n hX dX12_where_106 rfl ?_
        refine zk_V1i hX dX12_where_107 kcX12_offBy mlX12_326 viX12_offBy rfl k_166 z_166 (s_X12_offBy hw3 hk hB3 k2) (Nat.le_of_ble_eq_true rfl) rfl ?_
        rw [eo]
        refine zk_istore (lo' := [_, _, _, _, _, _, _, _]) hX dX12_where_110 (Nat.le_of_ble_eq_true rfl) rfl rfl ?_
        refine zk_aload_n hX dX12_where_112 rfl ?_
        refine zk_V0i hX dX12_where_113 kcX12_lampNow mlX12_217 viX12_lampNow rfl k_166 z_166 s_X12_lampNow (Nat.le_of_ble_eq_true rfl) rfl ?_
        rw [ec]
        refine zk_istore (lo' := [_, _, _, _, _, _, _, _]) hX dX12_where_116 (Nat.le_of_ble_eq_true rfl) rfl rfl ?_
        refine zk_iinc (lo' := [_, _, _, _, _, _, _, _]) hX dX12_where_118 rfl (by first | exact zinc _ | exact rfl) (Nat.le_of_ble_eq_true rfl) rfl rfl ?_
        refine zk_goto (tgt := 56) hX dX12_where_121 (by decide) ?_
        exact h9 _ hF3
      · rw [e]
        have es := zbst_s (P := fun _ => true) (f := F) rfl e
        refine zk_iload hX dX12_where_56 rfl ?_
        refine zk_bipush (v := 49) hX dX12_where_58 (by decide) ?_
        refine zk_icmp_ge (tgt := 124) hX dX12_where_60 (by decide) (fun c60 => ?_) (fun c60 => ?_)
        · exact absurd c60 (nI_ge (b := 49) (by omega) (by decide))
        refine zk_aload_n hX dX12_where_63 rfl ?_
        refine zk_iload hX dX12_where_64 rfl ?_
        refine zk_iload hX dX12_where_66 rfl ?_
        refine zk_bipush (v := 7) hX dX12_where_68 (by decide) ?_
        refine zk_idiv hX dX12_where_70 (by decide) ?_
        rw [show (7 : Int32) = nI 7 from rfl, nI_div (by omega) (by decide)]
        refine zk_iconst (v := 3) hX dX12_where_71 (by decide) ?_
        refine zk_isub hX dX12_where_72 ?_
        refine zk_iload hX dX12_where_73 rfl ?_
        refine zk_bipush (v := 7) hX dX12_where_75 (by decide) ?_
        refine zk_irem hX dX12_where_77 (by decide) ?_
        rw [show (7 : Int32) = nI 7 from rfl, nI_rem (by omega) (by decide)]
        refine zk_iconst (v := 3) hX dX12_where_78 (by decide) ?_
        refine zk_isub hX dX12_where_79 ?_
        refine zk_V3v hX dX12_where_80 kcX12_layLamp mlX12_221 viX12_layLamp rfl k_166 z_166 cb (Nat.le_of_ble_eq_true rfl) rfl ?_
        refine zk_aload_n hX dX12_where_83 rfl ?_
        refine zk_iload_n hX dX12_where_84 rfl ?_
        refine zk_V1vp hX dX12_where_85 kcX12_throwPose mlX12_314 viX12_throwPose rfl k_166 z_166 cs (Nat.le_of_ble_eq_true rfl) rfl (fun w3 q3 => ?_)
        obtain ⟨k1, k2⟩ := q3
        have hw3 := zFr_wf k1 hw2
        have hB3 : mBe w3 k M Y := mBe_o hB ⟨by rw [k1.2.1 187 (by decide) (by decide), hF2.2.1 187 (by decide) (by decide)], by rw [k1.2.1 188 (by decide) (by decide), hF2.2.1 188 (by decide) (by decide)]⟩
        have hF3 : zFr [179, 180, 181, 182] [] [2, 25, 26, 27, 29] w w3 := zFr_t hF2 (zFr_s k1 (by decide))
        have ec : zcode (w3.1 166 25) (w3.1 166 26) (w3.1 166 27) = nI (lc (lz i) (lu i) (lv i)) := (by rw [k1.2.2.2 25 (by decide), k1.2.2.2 26 (by decide), k1.2.2.2 27 (by decide), hL2.1, hL2.2.1, hL2.2.2, zcode_lc])
        refine zk_iload hX dX12_where_88 rfl ?_
        refine zk_bipush (v := -9) hX dX12_where_90 (by decide) ?_
        refine zk_icmp_eq (tgt := 105) hX dX12_where_92 (by decide) (fun c92 => ?_) (fun c92 => ?_)
        · exact absurd c92 (hn9 b)
        refine zk_aload_n hX dX12_where_95 rfl ?_
        refine zk_iload_n hX dX12_where_96 rfl ?_
        refine zk_V1i hX dX12_where_97 kcX12_offBy mlX12_326 viX12_offBy rfl k_166 z_166 (s_X12_offBy hw3 hk hB3 k2) (Nat.le_of_ble_eq_true rfl) rfl ?_
        rw [eo]
        refine zk_iload hX dX12_where_100 rfl ?_
        refine zk_icmp_ge (tgt := 118) hX dX12_where_102 (by decide) (fun c102 => ?_) (fun c102 => ?_)
        · refine zk_iinc (lo' := [_, _, _, _, _, _, _, _]) hX dX12_where_118 rfl (by first | exact zinc _ | exact rfl) (Nat.le_of_ble_eq_true rfl) rfl rfl ?_
          refine zk_goto (tgt := 56) hX dX12_where_121 (by decide) ?_
          have b1 := hF240 i
          have b2 := hF240 b
          first
            | (have c102' := nI_leD c102 (by omega) (by omega)
               rw [es, if_neg (by omega)] at h9
               exact h9 _ hF3)
            | (have c102' := nI_ltD c102 (by omega) (by omega)
               rw [es, if_pos (by omega)] at h9
               exact h9 _ hF3)
        · refine zk_aload_n hX dX12_where_105 rfl ?_
          refine zk_iload_n hX dX12_where_106 rfl ?_
          refine zk_V1i hX dX12_where_107 kcX12_offBy mlX12_326 viX12_offBy rfl k_166 z_166 (s_X12_offBy hw3 hk hB3 k2) (Nat.le_of_ble_eq_true rfl) rfl ?_
          rw [eo]
          refine zk_istore (lo' := [_, _, _, _, _, _, _, _]) hX dX12_where_110 (Nat.le_of_ble_eq_true rfl) rfl rfl ?_
          refine zk_aload_n hX dX12_where_112 rfl ?_
          refine zk_V0i hX dX12_where_113 kcX12_lampNow mlX12_217 viX12_lampNow rfl k_166 z_166 s_X12_lampNow (Nat.le_of_ble_eq_true rfl) rfl ?_
          rw [ec]
          refine zk_istore (lo' := [_, _, _, _, _, _, _, _]) hX dX12_where_116 (Nat.le_of_ble_eq_true rfl) rfl rfl ?_
          refine zk_iinc (lo' := [_, _, _, _, _, _, _, _]) hX dX12_where_118 rfl (by first | exact zinc _ | exact rfl) (Nat.le_of_ble_eq_true rfl) rfl rfl ?_
          refine zk_goto (tgt := 56) hX dX12_where_121 (by decide) ?_
          have b1 := hF240 i
          have b2 := hF240 b
          first
            | (have c102' := nI_leD c102 (by omega) (by omega)
               rw [es, if_neg (by omega)] at h9
               exact h9 _ hF3)
            | (have c102' := nI_ltD c102 (by omega) (by omega)
               rw [es, if_pos (by omega)] at h9
               exact h9 _ hF3)
  have nx : ∀ b0, (∀ w2 (a7 : Value), zFr [179, 180, 181, 182] [] [2, 25, 26, 27, 29] w w2 → zk0 G X mX12_where 47 [.ref 166, .int (nI p), .int (nI k), .int (nI (lc z u v)), .int (zoe ((zbst (fun _ => true) F (49 * b0 + 49)).map F)), .int (lB (zbst (fun _ => true) F (49 * b0 + 49))), .int (nI (b0 + 1 + 1)), a7] [] w2) → ∀ w1 (a7 : Value), zFr [179, 180, 181, 182] [] [2, 25, 26, 27, 29] w w1 → zk0 G X mX12_where 124 [.ref 166, .int (nI p), .int (nI k), .int (nI (lc z u v)), .int (zoe ((zbst (fun _ => true) F (49 * b0 + 49)).map F)), .int (lB (zbst (fun _ => true) F (49 * b0 + 49))), .int (nI (b0 + 1)), a7] [] w1 := by
    intro b0 h9 w2 a7 hF2
    refine zk_iinc (lo' := [_, _, _, _, _, _, _, _]) hX dX12_where_124 rfl (by first | exact zinc _ | exact rfl) (Nat.le_of_ble_eq_true rfl) rfl rfl ?_
    refine zk_goto (tgt := 47) hX dX12_where_127 (by decide) ?_
    exact h9 w2 _ hF2
  have outer : ∀ m b0 w1 (a7 : Value), b0 + m = 2 → zFr [179, 180, 181, 182] [] [2, 25, 26, 27, 29] w w1 → zk0 G X mX12_where 47 [.ref 166, .int (nI p), .int (nI k), .int (nI (lc z u v)), .int (zoe ((zbst (fun _ => true) F (49 * b0)).map F)), .int (lB (zbst (fun _ => true) F (49 * b0))), .int (nI (b0 + 1)), a7] [] w1 := by
    intro m
    induction m with
    | zero =>
      intro b0 w1 a7 hb hF
      obtain rfl : b0 = 2 := by omega
      refine zk_iload hX dX12_where_47 rfl ?_
      refine zk_iconst (v := 2) hX dX12_where_49 (by decide) ?_
      refine zk_icmp_gt (tgt := 130) hX dX12_where_50 (by decide) (fun c50 => ?_) (fun c50 => ?_)
      rotate_left
      · exact absurd (by decide) c50
      exact fin w1 _ _ hF
    | succ m ih =>
      intro b0 w1 a7 hb hF
      have h9 := fun w2 a7 => ih (b0 + 1) w2 a7 (by omega)
      rw [show 49 * (b0 + 1) = 49 * b0 + 49 by omega] at h9
      refine zk_iload hX dX12_where_47 rfl ?_
      refine zk_iconst (v := 2) hX dX12_where_49 (by decide) ?_
      refine zk_icmp_gt (tgt := 130) hX dX12_where_50 (by decide) (fun c50 => ?_) (fun c50 => ?_)
      · exact absurd c50 (nI_nlt (a := 2) (by omega) (by omega))
      refine zk_iconst (v := 0) hX dX12_where_53 (by decide) ?_
      refine zk_istore (lo' := [_, _, _, _, _, _, _, _]) hX dX12_where_54 (Nat.le_of_ble_eq_true rfl) rfl rfl ?_
      exact inner b0 (by omega) (nx b0 h9) 49 0 w1 (by omega) hF
  refine zk_aload_n hX dX12_where_0 rfl ?_
  refine zk_iload_n hX dX12_where_1 rfl ?_
  refine zk_V1i hX dX12_where_2 kcX12_isPose mlX12_290 viX12_isPose rfl k_166 z_166 (s_X12_isPose (n := n) (by omega) hP _) (Nat.le_of_ble_eq_true rfl) rfl ?_
  refine zk_if_eqB (tgt := 15) hX dX12_where_5 (by decide) (fun c5 => ?_) (fun c5 => ?_)
  · exact absurd c5 (not_not_intro ⟨nI_pos' (by omega), nI_lt hp (by omega)⟩)
  refine zk_iload_n hX dX12_where_8 rfl ?_
  refine zk_S1i hX dX12_where_9 kcX12_isBeast mlX12_317 smX12_isBeast rfl (s_X12_isBeast' _) (Nat.le_of_ble_eq_true rfl) rfl ?_
  refine zk_if_neB (tgt := 17) hX dX12_where_12 (by decide) (fun c12 => ?_) (fun c12 => ?_)
  rotate_left
  · exact absurd (zrle (n := 5) (by omega)) c12
  refine zk_aload_n hX dX12_where_17 rfl ?_
  refine zk_getR hX dX12_where_18 flX12_68 k_166 z_166 (hw _ _ (by decide) |>.trans r_166_37) ?_
  refine zk_iload_n hX dX12_where_21 rfl ?_
  refine zk_zaldE hX dX12_where_22 rfl k_186 z_186 (by first | assumption | omega) rfl ?_
  refine zk_if_ne (tgt := 32) hX dX12_where_23 (by decide) (fun c23 => ?_) (fun c23 => ?_)
  rotate_left
  · exact absurd c23 h1
  refine zk_aload_n hX dX12_where_32 rfl ?_
  refine zk_V0i hX dX12_where_33 kcX12_lampNow mlX12_217 viX12_lampNow rfl k_166 z_166 s_X12_lampNow (Nat.le_of_ble_eq_true rfl) rfl ?_
  rw [hl.1, hl.2.1, hl.2.2, zcode_lc]
  refine zk_istore_n (lo' := [_, _, _, _, _, _, _, _]) hX dX12_where_36 (Nat.le_of_ble_eq_true rfl) rfl rfl ?_
  refine zk_bipush (v := -9) hX dX12_where_37 (by decide) ?_
  refine zk_istore (lo' := [_, _, _, _, _, _, _, _]) hX dX12_where_39 (Nat.le_of_ble_eq_true rfl) rfl rfl ?_
  refine zk_iconst (v := 0) hX dX12_where_41 (by decide) ?_
  refine zk_istore (lo' := [_, _, _, _, _, _, _, _]) hX dX12_where_42 (Nat.le_of_ble_eq_true rfl) rfl rfl ?_
  refine zk_iconst (v := 1) hX dX12_where_44 (by decide) ?_
  refine zk_istore (lo' := [_, _, _, _, _, _, _, _]) hX dX12_where_45 (Nat.le_of_ble_eq_true rfl) rfl rfl ?_
  exact outer 2 0 w _ (by omega) zFr_r
theorem zO_where {G : zG} (p k : Int32) : zOi G mX11_where mX12_where [.int p, .int k] := by
  intro w h
  have h0 := h
  obtain ⟨hw, hT, hR, hX, hB, D, z, u, v, T, n, nl, c, hH, hL, hS, hP, hK⟩ := h
  obtain ⟨hD, hH1, hM, hRe⟩ := hH
  have h12 := hP.1
  by_cases hk0 : (0 ≤ p ∧ p < nI n) ∧ (0 ≤ k ∧ k < 6)
  · obtain ⟨p, hp, rfl⟩ := rn (by omega) hk0.1
    obtain ⟨k, hk, rfl⟩ := r6 hk0.2
    have q := hP.2.2.2 p hp
    obtain ⟨C, hC1, hC2⟩ := q.2.2.2.2.2.1
    obtain ⟨b1, b2, b3, M, Y, b4, b5⟩ := hB k hk
    by_cases hz : w.1 186 k = 0
    · exact zO_find h0 1 (s_X11_where_m hw h12 hP.2.1 hp hk (b1.trans hz)) (s_X12_where_m (zfind_w hw) h12 (by rw [zfind_a (by decide) (by decide)]; exact hP.2.2.1) hp hk (by rw [zfind_a (by decide) (by decide)]; exact hz))
    · have hz' : ¬ w.1 (96 + 3 * k) 3 = 0 := by rw [b1]; exact hz
      have c1 := s_X11_where (G := G) hw h12 hP.2.1 hp hk hz' q.2.2.2.2.1 hC1 b4
      rw [q.2.2.2.1.1] at c1
      refine zCi_m c1 (fun a w1 g => ?_)
      obtain ⟨rfl, k1, k2, k3⟩ := g
      have c2 := s_X12_where (G := G) (w := w1) (D := D) (C := C) (M := M) (Y := Y) (zFr_wf k1 hw) (mHd_f hM k1 (by decide)) hD h12 (by rw [k1.2.2.2 33 (by decide)]; exact hP.2.2.1) hp hk (by rw [k1.2.1 186 (by decide) (by decide)]; exact hz) (qP1_t2 hD q) (fun j hj => by rw [k1.2.1 184 (by decide) (by decide)]; exact q.2.2.1 j hj) (mLm_o hL.2.2 ⟨k1.2.2.2 25 (by decide), k1.2.2.2 26 (by decide), k1.2.2.2 27 (by decide)⟩) hL.1 (fun y hy => by rw [k1.2.1 185 (by decide) (by decide)]; exact hC2 y hy) (mBe_o b5 ⟨k1.2.1 187 (by decide) (by decide), k1.2.1 188 (by decide) (by decide)⟩)
      rw [k1.2.1 183 (by decide) (by decide)] at c2
      refine zCi_m c2 (fun a w2 g => ?_)
      obtain ⟨rfl, k4, k5, k6⟩ := g
      have hF0 : zFr [1, 45, 179, 180, 181, 182] [163] [2, 25, 26, 27, 29] w w2 := zFr_t (zFr_s k1 (by decide)) (zFr_s k4 (by decide))
      have hF : zFr [1, 45, 179, 180, 181, 182] [163] [2, 29] w w2 := ⟨hF0.1, hF0.2.1, hF0.2.2.1, fun i hi => by
        by_cases e1 : i = 25
        · rw [e1, k5.1, hL.2.2.1]
        · by_cases e2 : i = 26
          · rw [e2, k5.2.1, hL.2.2.2.1]
          · by_cases e3 : i = 27
            · rw [e3, k5.2.2, hL.2.2.2.2]
            · exact hF0.2.2.2 i (by simp at hi ⊢; omega)⟩
      refine ⟨rfl, zQ_told h0 (zFr_wf hF hw) hF.2 (by decide) (qT_v hT ?_ ⟨hF.2.2.1 1 (by decide), hF.2.2.1 166 (by decide)⟩ ⟨?_, hF.2.2.2 0 (by decide)⟩ ⟨hF.2.1 2 (by decide) (by decide), hF.2.1 167 (by decide) (by decide)⟩)⟩
      · rw [k4.2.1 1 (by decide) (by decide), k3, k6]
      · rw [k4.2.1 1 (by decide) (by decide), k2 3 (by decide)]
  · exact zOe (s_X11_where_bad hw p k (by rw [hP.2.1]; exact hk0)) (s_X12_where_bad h12 hP.2.2.1 p k hk0) rfl h0
