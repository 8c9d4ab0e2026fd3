/-! picture: the model's, and the call -/
theorem s_X12_picture_bad {G : zG} {w : zW} (r : Int32) (h : ¬ (0 ≤ r ∧ r < 6)) : zEi G mX12_picture [.ref 166, .int r] w (-1) w := by
  refine zC_of (lo := [_, _, _, _, _, _, _]) kcX12_picture (Nat.le_of_ble_eq_true rfl) rfl (fun X hX hE => ?_)
  refine zk_iload_n hX dX12_picture_0 rfl ?_
  refine zk_S1i hX dX12_picture_1 kcX12_isRow mlX12_141 smX12_isRow rfl (s_X12_isRow _) (Nat.le_of_ble_eq_true rfl) rfl ?_
  refine zk_if_neB (tgt := 9) hX dX12_picture_4 (by decide) (fun c4 => ?_) (fun c4 => ?_)
  · exact absurd c4 (r65 h)
  refine zk_iconst (v := -1) hX dX12_picture_7 (by decide) ?_
  refine zk_iret hX hE rfl ⟨rfl, rfl⟩ dX12_picture_8 ⟨_, rfl, ?_⟩
  exact ⟨rfl, rfl⟩
theorem s_X12_picture_f {G : zG} {w : zW} {r k : Nat} (hw : zWf w) (hr : r < 6) (hf : m_need w r = (-3, mfind w k)) : zEi G mX12_picture [.ref 166, .int (nI r)] w (-3) (mfind w k) := by
  have c1 := s_X12_needShadow (G := G) hw hr
  unfold zFi at c1
  rw [hf] at c1
  have c1 : zEi G mX12_needShadow [.ref 166, .int (nI r)] w (-3) (mfind w k) := c1
  refine zC_of (lo := [_, _, _, _, _, _, _]) kcX12_picture (Nat.le_of_ble_eq_true rfl) rfl (fun X hX hE => ?_)
  refine zk_iload_n hX dX12_picture_0 rfl ?_
  refine zk_S1i hX dX12_picture_1 kcX12_isRow mlX12_141 smX12_isRow rfl (s_X12_isRow _) (Nat.le_of_ble_eq_true rfl) rfl ?_
  refine zk_if_neB (tgt := 9) hX dX12_picture_4 (by decide) (fun c4 => ?_) (fun c4 => ?_)
  rotate_left
  · exact absurd (zrle (n := 5) (by omega)) c4
  refine zk_aload_n hX dX12_picture_9 rfl ?_
  refine zk_iload_n hX dX12_picture_10 rfl ?_
  refine zk_V1i hX dX12_picture_11 kcX12_needShadow mlX12_296 viX12_needShadow rfl k_166 z_166 c1 (Nat.le_of_ble_eq_true rfl) rfl ?_
  refine zk_istore_n (lo' := [_, _, _, _, _, _, _]) hX dX12_picture_14 (Nat.le_of_ble_eq_true rfl) rfl rfl ?_
  refine zk_iload_n hX dX12_picture_15 rfl ?_
  refine zk_if_ge (tgt := 21) hX dX12_picture_16 (by decide) (fun c16 => ?_) (fun c16 => ?_)
  · exact absurd c16 (by decide)
  refine zk_iload_n hX dX12_picture_19 rfl ?_
  refine zk_iret hX hE rfl ⟨rfl, rfl⟩ dX12_picture_20 ⟨_, rfl, ?_⟩
  exact ⟨rfl, rfl⟩
theorem s_X12_picture_s {G : zG} {w : zW} {D : zD} {r : Nat} (hw : zWf w) (hM : mHd w D) (hD : zDok D) (hr : r < 6) (h0 : m_need w r = (0, w)) (hN : 4096 < zpr (zsp D) (dJ D)) : zEi G mX12_picture [.ref 166, .int (nI r)] w (-6) w := by
  have hN0 := zpr_le hD (Nat.le_refl _)
  have c1 := s_X12_needShadow (G := G) hw hr
  unfold zFi at c1
  rw [h0] at c1
  have c1 : zEi G mX12_needShadow [.ref 166, .int (nI r)] w 0 w := c1
  refine zC_of (lo := [_, _, _, _, _, _, _]) kcX12_picture (Nat.le_of_ble_eq_true rfl) rfl (fun X hX hE => ?_)
  refine zk_iload_n hX dX12_picture_0 rfl ?_
  refine zk_S1i hX dX12_picture_1 kcX12_isRow mlX12_141 smX12_isRow rfl (s_X12_isRow _) (Nat.le_of_ble_eq_true rfl) rfl ?_
  refine zk_if_neB (tgt := 9) hX dX12_picture_4 (by decide) (fun c4 => ?_) (fun c4 => ?_)
  rotate_left
  · exact absurd (zrle (n := 5) (by omega)) c4
  refine zk_aload_n hX dX12_picture_9 rfl ?_
  refine zk_iload_n hX dX12_picture_10 rfl ?_
  refine zk_V1i hX dX12_picture_11 kcX12_needShadow mlX12_296 viX12_needShadow rfl k_166 z_166 c1 (Nat.le_of_ble_eq_true rfl) rfl ?_
  refine zk_istore_n (lo' := [_, _, _, _, _, _, _]) hX dX12_picture_14 (Nat.le_of_ble_eq_true rfl) rfl rfl ?_
  refine zk_iload_n hX dX12_picture_15 rfl ?_
  refine zk_if_ge (tgt := 21) hX dX12_picture_16 (by decide) (fun c16 => ?_) (fun c16 => ?_)
  rotate_left
  · exact absurd (by decide) c16
  refine zk_aload_n hX dX12_picture_21 rfl ?_
  refine zk_V0i hX dX12_picture_22 kcX12_turnsMany mlX12_329 viX12_turnsMany rfl k_166 z_166 (s_X12_turnsMany hw hM hD) (Nat.le_of_ble_eq_true rfl) rfl ?_
  refine zk_sipush (v := 4096) hX dX12_picture_25 (by decide) ?_
  refine zk_icmp_le (tgt := 34) hX dX12_picture_28 (by decide) (fun c28 => ?_) (fun c28 => ?_)
  · exact absurd c28 (fun z => absurd (nI_leD (y := 4096) z) (by omega))
  refine zk_bipush (v := -6) hX dX12_picture_31 (by decide) ?_
  refine zk_iret hX hE rfl ⟨rfl, rfl⟩ dX12_picture_33 ⟨_, rfl, ?_⟩
  exact ⟨rfl, rfl⟩
def gM (D : zD) (T : Nat) (W : zS) (n : Nat) : Nat := zcnt (mJ D (lz n) (lu n) (lv n) T W) (zpr (zsp D) (dJ D))
theorem s_X12_picture {G : zG} {w : zW} {D : zD} {r z u v T : Nat} {f : Nat → Nat} (hw : zWf w) (hM : mHd w D) (hD : zDok D) (hN : zpr (zsp D) (dJ D) ≤ 4096) (hT9 : T ≤ 99) (hS : w.1 166 24 = nI T) (hl : mLm w z u v) (ho : zlok z u v) (hr : r < 6) (h0 : m_need w r = (0, w)) (hf : ∀ y, y < 10 → w.1 169 (40 * r + y) = nI (f y)) (h4 : ∀ y, y < 10 → f y < 4096) :
    zCi G mX12_picture [.ref 166, .int (nI r)] w (fun a w' => zPic (gM D T (zofL f)) a (w'.1 166 2) (w.1 166 2) ∧ zFr [179, 180, 181, 182, 191, 192, 193] [] [2, 25, 26, 27, 29] w w' ∧ mLm w' z u v) := by
  have c1 := s_X12_needShadow (G := G) hw hr
  unfold zFi at c1
  rw [h0] at c1
  have c1 : zEi G mX12_needShadow [.ref 166, .int (nI r)] w 0 w := c1
  have hWn : ∀ w1 : zW, (∀ y, y < 10 → w1.1 191 y = w.1 169 (40 * r + y)) → mWn w1 (zofL f) := fun w1 q => zshW h4 (fun y hy => by rw [q y hy]; exact hf y hy)
  generalize zofL f = W at *
  have hg : ∀ n, gM D T W n ≤ 4096 := fun n => Nat.le_trans (zcnt_le _ _) hN
  refine zC_of (lo := [_, _, _, _, _, _, _]) kcX12_picture (Nat.le_of_ble_eq_true rfl) rfl (fun X hX hE => ?_)
  have fin0 : ∀ w1 (a6 : Value), zFr [179, 180, 181, 182, 191, 192, 193] [] [25, 26, 27, 29] w w1 → (∀ j, j < 98 → gM D T W j = 0) → zk0 G X mX12_picture 122 [.ref 166, .int (nI r), .int 0, .int (nI (lc z u v)), .int (-9), .int 0, a6] [] w1 := by
    intro w1 a6 hF hz
    have hw1 := zFr_wf hF hw
    refine zk_aload_n hX dX12_picture_122 rfl ?_
    refine zk_iload_n hX dX12_picture_123 rfl ?_
    refine zk_bipush (v := 100) hX dX12_picture_124 (by decide) ?_
    refine zk_idiv hX dX12_picture_126 (by decide) ?_
    rw [lc_z ho]
    refine zk_iload_n hX dX12_picture_127 rfl ?_
    refine zk_bipush (v := 10) hX dX12_picture_128 (by decide) ?_
    refine zk_idiv hX dX12_picture_130 (by decide) ?_
    refine zk_bipush (v := 10) hX dX12_picture_131 (by decide) ?_
    refine zk_irem hX dX12_picture_133 (by decide) ?_
    refine zk_iconst (v := 3) hX dX12_picture_134 (by decide) ?_
    refine zk_isub hX dX12_picture_135 ?_
    rw [lc_u ho]
    refine zk_iload_n hX dX12_picture_136 rfl ?_
    refine zk_bipush (v := 10) hX dX12_picture_137 (by decide) ?_
    refine zk_irem hX dX12_picture_139 (by decide) ?_
    refine zk_iconst (v := 3) hX dX12_picture_140 (by decide) ?_
    refine zk_isub hX dX12_picture_141 ?_
    rw [lc_v ho]
    refine zk_V3v hX dX12_picture_142 kcX12_layLamp mlX12_221 viX12_layLamp rfl k_166 z_166 (s_X12_layLamp _ _ _) (Nat.le_of_ble_eq_true rfl) rfl ?_
    refine zk_iload hX dX12_picture_145 rfl ?_
    refine zk_if_ne (tgt := 155) hX dX12_picture_147 (by decide) (fun c147 => ?_) (fun c147 => ?_)
    · exact absurd c147 (fun q => q rfl)
    refine zk_bipush (v := -9) hX dX12_picture_150 (by decide) ?_
    refine zk_goto (tgt := 163) hX dX12_picture_152 (by decide) ?_
    refine zk_iret hX hE rfl ⟨rfl, rfl⟩ dX12_picture_163 ⟨_, rfl, ?_⟩
    exact ⟨Or.inr ⟨hz, rfl, by rw [show (mbecome w1 (nI z) (nI u - 3) (nI v - 3)).1 166 2 = w1.1 166 2 from (mbecome_fr (A := []) (B := []) (F := [25, 26, 27]) (by decide) (by decide) (by decide)).2.2.2 2 (by decide), hF.2.2.2 2 (by decide)]⟩, zFr_t (zFr_s hF (by decide)) (mbecome_fr (by decide) (by decide) (by decide)), mLm_n (w := w1) z u v⟩
  have fin1 : ∀ i w1 (a6 : Value), i < 98 → zFr [179, 180, 181, 182, 191, 192, 193] [] [25, 26, 27, 29] w w1 → (∀ j, j < i → gM D T W j = 0) → 0 < gM D T W i → zk0 G X mX12_picture 122 [.ref 166, .int (nI r), .int 0, .int (nI (lc z u v)), .int (nI (lc (lz i) (lu i) (lv i))), .int (nI (gM D T W i)), a6] [] w1 := by
    intro i w1 a6 hi hF hz hp
    have hw1 := zFr_wf hF hw
    have gi := hg i
    refine zk_aload_n hX dX12_picture_122 rfl ?_
    refine zk_iload_n hX dX12_picture_123 rfl ?_
    refine zk_bipush (v := 100) hX dX12_picture_124 (by decide) ?_
    refine zk_idiv hX dX12_picture_126 (by decide) ?_
    rw [lc_z ho]
    refine zk_iload_n hX dX12_picture_127 rfl ?_
    refine zk_bipush (v := 10) hX dX12_picture_128 (by decide) ?_
    refine zk_idiv hX dX12_picture_130 (by decide) ?_
    refine zk_bipush (v := 10) hX dX12_picture_131 (by decide) ?_
    refine zk_irem hX dX12_picture_133 (by decide) ?_
    refine zk_iconst (v := 3) hX dX12_picture_134 (by decide) ?_
    refine zk_isub hX dX12_picture_135 ?_
    rw [lc_u ho]
    refine zk_iload_n hX dX12_picture_136 rfl ?_
    refine zk_bipush (v := 10) hX dX12_picture_137 (by decide) ?_
    refine zk_irem hX dX12_picture_139 (by decide) ?_
    refine zk_iconst (v := 3) hX dX12_picture_140 (by decide) ?_
    refine zk_isub hX dX12_picture_141 ?_
    rw [lc_v ho]
    refine zk_V3v hX dX12_picture_142 kcX12_layLamp mlX12_221 viX12_layLamp rfl k_166 z_166 (s_X12_layLamp _ _ _) (Nat.le_of_ble_eq_true rfl) rfl ?_
    refine zk_iload hX dX12_picture_145 rfl ?_
    refine zk_if_ne (tgt := 155) hX dX12_picture_147 (by decide) (fun c147 => ?_) (fun c147 => ?_)
    rotate_left
    · exact absurd (nI_inj (b := 0) (by omega) (by decide) c147) (by omega)
    refine zk_aload_n hX dX12_picture_155 rfl ?_
    refine zk_iload hX dX12_picture_156 rfl ?_
    refine zk_iload hX dX12_picture_158 rfl ?_
    refine zk_V2i hX dX12_picture_160 kcX12_tells mlX12_153 viX12_tells rfl k_166 z_166 (s_X12_tells _ _) (Nat.le_of_ble_eq_true rfl) rfl ?_
    refine zk_iret hX hE rfl ⟨rfl, rfl⟩ dX12_picture_163 ⟨_, rfl, ?_⟩
    refine ⟨Or.inl ⟨i, hi, hz, hp, rfl, by rw [zsi_1, if_pos ⟨rfl, rfl⟩]⟩, zFr_t (zFr_s hF (by decide)) (zFr_t (mbecome_fr (by decide) (by decide) (by decide)) (zFr_m (by decide))), mLm_o (mLm_n (w := w1) z u v) ⟨?_, ?_, ?_⟩⟩
    · rw [zsi_1, if_neg (by omega)]
    · rw [zsi_1, if_neg (by omega)]
    · rw [zsi_1, if_neg (by omega)]
  have loop : ∀ m i w1, i + m = 98 → zFr [179, 180, 181, 182, 191, 192, 193] [] [25, 26, 27, 29] w w1 → mWn w1 W → (∀ j, j < i → gM D T W j = 0) → zk0 G X mX12_picture 54 [.ref 166, .int (nI r), .int 0, .int (nI (lc z u v)), .int (-9), .int 0, .int (nI i)] [] w1 := by
    intro m
    induction m with
    | zero =>
      intro i w1 hi hF hW hz
      obtain rfl : i = 98 := by omega
      refine zk_iload hX dX12_picture_54 rfl ?_
      refine zk_bipush (v := 98) hX dX12_picture_56 (by decide) ?_
      refine zk_icmp_ge (tgt := 122) hX dX12_picture_58 (by decide) (fun c58 => ?_) (fun c58 => ?_)
      rotate_left
      · exact absurd (by decide) c58
      exact fin0 w1 _ hF hz
    | succ m ih =>
      intro i w1 hi hF hW hz
      have hw1 := zFr_wf hF hw
      have e1 : i % 49 / 7 = lu i := by unfold lu; omega
      have e2 : 1 + i / 49 = lz i := rfl
      have e3 : i % 7 = lv i := rfl
      generalize eL : mbecome w1 (nI (lz i)) (nI (lu i) - 3) (nI (lv i) - 3) = w2
      have hL2 : mLm w2 (lz i) (lu i) (lv i) := by rw [← eL]; exact mLm_n _ _ _
      have hF12 : zFr [] [] [25, 26, 27] w1 w2 := by rw [← eL]; exact mbecome_fr (by decide) (by decide) (by decide)
      have hF2 : zFr [179, 180, 181, 182, 191, 192, 193] [] [25, 26, 27, 29] w w2 := zFr_t hF (zFr_s hF12 (by decide))
      have hw2 := zFr_wf hF2 hw
      have cb : zEv G mX12_layLamp [.ref 166, .int (nI (lz i)), .int (nI (lu i) - 3), .int (nI (lv i) - 3)] w1 w2 := by rw [← eL]; exact s_X12_layLamp _ _ _
      have ct := s_X12_throwMany (G := G) (T := T) (W := W) hw2 (mHd_f hM hF2 (by decide)) hD (by rw [hF2.2.2.2 24 (by decide)]; exact hS) hT9 hN hL2 (l_ok (by omega)) (fun y hy => by rw [hF12.2.1 191 (by decide) (by decide)]; exact hW y hy)
      rw [show zcnt (mJ D (lz i) (lu i) (lv i) T W) (zpr (zsp D) (dJ D)) = gM D T W i from rfl] at ct
      have gi := hg i
      by_cases gz : gM D T W i = 0
      · rw [gz] at ct
        refine zk_iload hX dX12_picture_54 rfl ?_
        refine zk_bipush (v := 98) hX dX12_picture_56 (by decide) ?_
        refine zk_icmp_ge (tgt := 122) hX dX12_picture_58 (by decide) (fun c58 => ?_) (fun c58 => ?_)
        · exact absurd c58 (nI_ge (b := 98) (by omega) (by decide))
        refine zk_iload hX dX12_picture_61 rfl ?_
        refine zk_if_ne (tgt := 122) hX dX12_picture_63 (by decide) (fun c63 => ?_) (fun c63 => ?_)
        · exact absurd c63 (fun q => q rfl)
        refine zk_aload_n hX dX12_picture_66 rfl ?_
        refine zk_iconst (v := 1) hX dX12_picture_67 (by decide) ?_
        refine zk_iload hX dX12_picture_68 rfl ?_
        refine zk_bipush (v := 49) hX dX12_picture_70 (by decide) ?_
        refine zk_idiv hX dX12_picture_72 (by decide) ?_
        rw [show (49 : Int32) = nI 49 from rfl, nI_div (by omega) (by decide), show (1 : Int32) = nI 1 from rfl]
        refine zk_iadd hX dX12_picture_73 ?_
        rw [nI_add, e2]
        refine zk_iload hX dX12_picture_74 rfl ?_
        refine zk_bipush (v := 49) hX dX12_picture_76 (by decide) ?_
        refine zk_irem hX dX12_picture_78 (by decide) ?_
        rw [show (49 : Int32) = nI 49 from rfl, nI_rem (by omega) (by decide)]
        refine zk_bipush (v := 7) hX dX12_picture_79 (by decide) ?_
        refine zk_idiv hX dX12_picture_81 (by decide) ?_
        rw [show (7 : Int32) = nI 7 from rfl, nI_div (by omega) (by decide), e1]
        refine zk_iconst (v := 3) hX dX12_picture_82 (by decide) ?_
        refine zk_isub hX dX12_picture_83 ?_
        refine zk_iload hX dX12_picture_84 rfl ?_
        refine zk_bipush (v := 7) hX dX12_picture_86 (by decide) ?_
        refine zk_irem hX dX12_picture_88 (by decide) ?_
        rw [show (7 : Int32) = nI 7 from rfl, nI_rem (by omega) (by decide), e3]
        refine zk_iconst (v := 3) hX dX12_picture_89 (by decide) ?_
        refine zk_isub hX dX12_picture_90 ?_
        refine zk_V3v hX dX12_picture_91 kcX12_layLamp mlX12_221 viX12_layLamp rfl k_166 z_166 cb (Nat.le_of_ble_eq_true rfl) rfl ?_
        refine zk_aload_n hX dX12_picture_94 rfl ?_
        refine zk_V0ip hX dX12_picture_95 kcX12_throwMany mlX12_353 viX12_throwMany rfl k_166 z_166 ct (Nat.le_of_ble_eq_true rfl) rfl (fun x w3 q3 => ?_)
        obtain ⟨rfl, k3, _⟩ := q3
        refine zk_istore (lo' := [_, _, _, _, _, _, _]) hX dX12_picture_98 (Nat.le_of_ble_eq_true rfl) rfl rfl ?_
        refine zk_iload hX dX12_picture_100 rfl ?_
        refine zk_if_le (tgt := 112) hX dX12_picture_102 (by decide) (fun c102 => ?_) (fun c102 => ?_)
        rotate_left
        · exact absurd (by decide) c102
        refine zk_iload hX dX12_picture_112 rfl ?_
        refine zk_istore (lo' := [_, _, _, _, _, _, _]) hX dX12_picture_114 (Nat.le_of_ble_eq_true rfl) rfl rfl ?_
        refine zk_iinc (lo' := [_, _, _, _, _, _, _]) hX dX12_picture_116 rfl (by first | exact zinc _ | exact rfl) (Nat.le_of_ble_eq_true rfl) rfl rfl ?_
        refine zk_goto (tgt := 54) hX dX12_picture_119 (by decide) ?_
        refine ih (i + 1) w3 (by omega) (zFr_t hF2 (zFr_s k3 (by decide))) (fun y hy => by rw [k3.2.1 191 (by decide) (by decide), hF12.2.1 191 (by decide) (by decide)]; exact hW y hy) (fun j hj => ?_)
        rcases Nat.lt_succ_iff_lt_or_eq.mp hj with q | rfl
        · exact hz j q
        · exact gz
      · have stp : ∀ w3, zFr [179, 180, 181, 182, 191, 192, 193] [] [25, 26, 27, 29] w w3 → zk0 G X mX12_picture 54 [.ref 166, .int (nI r), .int 0, .int (nI (lc z u v)), .int (nI (lc (lz i) (lu i) (lv i))), .int (nI (gM D T W i)), .int (nI (i + 1))] [] w3 := by
          intro w3 hF3
          by_cases e98 : i + 1 = 98
          · rw [e98]
            refine zk_iload hX dX12_picture_54 rfl ?_
            refine zk_bipush (v := 98) hX dX12_picture_56 (by decide) ?_
            refine zk_icmp_ge (tgt := 122) hX dX12_picture_58 (by decide) (fun c58 => ?_) (fun c58 => ?_)
            rotate_left
            · exact absurd (by decide) c58
            exact fin1 i w3 _ (by omega) hF3 hz (by omega)
          · refine zk_iload hX dX12_picture_54 rfl ?_
            refine zk_bipush (v := 98) hX dX12_picture_56 (by decide) ?_
            refine zk_icmp_ge (tgt := 122) hX dX12_picture_58 (by decide) (fun c58 => ?_) (fun c58 => ?_)
            · exact absurd c58 (nI_ge (b := 98) (by omega) (by decide))
            refine zk_iload hX dX12_picture_61 rfl ?_
            refine zk_if_ne (tgt := 122) hX dX12_picture_63 (by decide) (fun c63 => ?_) (fun c63 => ?_)
            rotate_left
            · exact absurd (nI_inj (b := 0) (by omega) (by decide) c63) (by omega)
            exact fin1 i w3 _ (by omega) hF3 hz (by omega)
        refine zk_iload hX dX12_picture_54 rfl ?_
        refine zk_bipush (v := 98) hX dX12_picture_56 (by decide) ?_
        refine zk_icmp_ge (tgt := 122) hX dX12_picture_58 (by decide) (fun c58 => ?_) (fun c58 => ?_)
        · exact absurd c58 (nI_ge (b := 98) (by omega) (by decide))
        refine zk_iload hX dX12_picture_61 rfl ?_
        refine zk_if_ne (tgt := 122) hX dX12_picture_63 (by decide) (fun c63 => ?_) (fun c63 => ?_)
        · exact absurd c63 (fun q => q rfl)
        refine zk_aload_n hX dX12_picture_66 rfl ?_
        refine zk_iconst (v := 1) hX dX12_picture_67 (by decide) ?_
        refine zk_iload hX dX12_picture_68 rfl ?_
        refine zk_bipush (v := 49) hX dX12_picture_70 (by decide) ?_
        refine zk_idiv hX dX12_picture_72 (by decide) ?_
        rw [show (49 : Int32) = nI 49 from rfl, nI_div (by omega) (by decide), show (1 : Int32) = nI 1 from rfl]
        refine zk_iadd hX dX12_picture_73 ?_
        rw [nI_add, e2]
        refine zk_iload hX dX12_picture_74 rfl ?_
        refine zk_bipush (v := 49) hX dX12_picture_76 (by decide) ?_
        refine zk_irem hX dX12_picture_78 (by decide) ?_
        rw [show (49 : Int32) = nI 49 from rfl, nI_rem (by omega) (by decide)]
        refine zk_bipush (v := 7) hX dX12_picture_79 (by decide) ?_
        refine zk_idiv hX dX12_picture_81 (by decide) ?_
        rw [show (7 : Int32) = nI 7 from rfl, nI_div (by omega) (by decide), e1]
        refine zk_iconst (v := 3) hX dX12_picture_82 (by decide) ?_
        refine zk_isub hX dX12_picture_83 ?_
        refine zk_iload hX dX12_picture_84 rfl ?_
        refine zk_bipush (v := 7) hX dX12_picture_86 (by decide) ?_
        refine zk_irem hX dX12_picture_88 (by decide) ?_
        rw [show (7 : Int32) = nI 7 from rfl, nI_rem (by omega) (by decide), e3]
        refine zk_iconst (v := 3) hX dX12_picture_89 (by decide) ?_
        refine zk_isub hX dX12_picture_90 ?_
        refine zk_V3v hX dX12_picture_91 kcX12_layLamp mlX12_221 viX12_layLamp rfl k_166 z_166 cb (Nat.le_of_ble_eq_true rfl) rfl ?_
        refine zk_aload_n hX dX12_picture_94 rfl ?_
        refine zk_V0ip hX dX12_picture_95 kcX12_throwMany mlX12_353 viX12_throwMany rfl k_166 z_166 ct (Nat.le_of_ble_eq_true rfl) rfl (fun x w3 q3 => ?_)
        obtain ⟨rfl, k3, _⟩ := q3
        have ec : zcode (w3.1 166 25) (w3.1 166 26) (w3.1 166 27) = nI (lc (lz i) (lu i) (lv i)) := (by rw [k3.2.2.2 25 (by decide), k3.2.2.2 26 (by decide), k3.2.2.2 27 (by decide), hL2.1, hL2.2.1, hL2.2.2, zcode_lc])
        refine zk_istore (lo' := [_, _, _, _, _, _, _]) hX dX12_picture_98 (Nat.le_of_ble_eq_true rfl) rfl rfl ?_
        refine zk_iload hX dX12_picture_100 rfl ?_
        refine zk_if_le (tgt := 112) hX dX12_picture_102 (by decide) (fun c102 => ?_) (fun c102 => ?_)
        · exact absurd (nI_leD (y := 0) c102 (by omega) (by omega)) (by omega)
        refine zk_aload_n hX dX12_picture_105 rfl ?_
        refine zk_V0i hX dX12_picture_106 kcX12_lampNow mlX12_217 viX12_lampNow rfl k_166 z_166 s_X12_lampNow (Nat.le_of_ble_eq_true rfl) rfl ?_
        rw [ec]
        refine zk_goto (tgt := 114) hX dX12_picture_109 (by decide) ?_
        refine zk_istore (lo' := [_, _, _, _, _, _, _]) hX dX12_picture_114 (Nat.le_of_ble_eq_true rfl) rfl rfl ?_
        refine zk_iinc (lo' := [_, _, _, _, _, _, _]) hX dX12_picture_116 rfl (by first | exact zinc _ | exact rfl) (Nat.le_of_ble_eq_true rfl) rfl rfl ?_
        refine zk_goto (tgt := 54) hX dX12_picture_119 (by decide) ?_
        exact stp w3 (zFr_t hF2 (zFr_s k3 (by decide)))
  refine zk_iload_n hX dX12_picture_0 rfl ?_
  refine zk_S1i hX dX12_picture_1 kcX12_isRow mlX12_141 smX12_isRow rfl (s_X12_isRow _) (Nat.le_of_ble_eq_true rfl) rfl ?_
  refine zk_if_neB (tgt := 9) hX dX12_picture_4 (by decide) (fun c4 => ?_) (fun c4 => ?_)
  rotate_left
  · exact absurd (zrle (n := 5) (by omega)) c4
  refine zk_aload_n hX dX12_picture_9 rfl ?_
  refine zk_iload_n hX dX12_picture_10 rfl ?_
  refine zk_V1i hX dX12_picture_11 kcX12_needShadow mlX12_296 viX12_needShadow rfl k_166 z_166 c1 (Nat.le_of_ble_eq_true rfl) rfl ?_
  refine zk_istore_n (lo' := [_, _, _, _, _, _, _]) hX dX12_picture_14 (Nat.le_of_ble_eq_true rfl) rfl rfl ?_
  refine zk_iload_n hX dX12_picture_15 rfl ?_
  refine zk_if_ge (tgt := 21) hX dX12_picture_16 (by decide) (fun c16 => ?_) (fun c16 => ?_)
  rotate_left
  · exact absurd (by decide) c16
  refine zk_aload_n hX dX12_picture_21 rfl ?_
  refine zk_V0i hX dX12_picture_22 kcX12_turnsMany mlX12_329 viX12_turnsMany rfl k_166 z_166 (s_X12_turnsMany hw hM hD) (Nat.le_of_ble_eq_true rfl) rfl ?_
  refine zk_sipush (v := 4096) hX dX12_picture_25 (by decide) ?_
  refine zk_icmp_le (tgt := 34) hX dX12_picture_28 (by decide) (fun c28 => ?_) (fun c28 => ?_)
  rotate_left
  · exact absurd (nI_le (b := 4096) hN (by decide)) c28
  refine zk_aload_n hX dX12_picture_34 rfl ?_
  refine zk_iload_n hX dX12_picture_35 rfl ?_
  refine zk_V1vp hX dX12_picture_36 kcX12_layWanted mlX12_350 viX12_layWanted rfl k_166 z_166 (s_X12_layWanted hw hr) (Nat.le_of_ble_eq_true rfl) rfl (fun w1 q1 => ?_)
  have hw1 := zFr_wf q1.1 hw
  refine zk_aload_n hX dX12_picture_39 rfl ?_
  refine zk_V0i hX dX12_picture_40 kcX12_lampNow mlX12_217 viX12_lampNow rfl k_166 z_166 s_X12_lampNow (Nat.le_of_ble_eq_true rfl) rfl ?_
  rw [q1.1.2.2.2 25 (by decide), q1.1.2.2.2 26 (by decide), q1.1.2.2.2 27 (by decide), hl.1, hl.2.1, hl.2.2, zcode_lc]
  refine zk_istore_n (lo' := [_, _, _, _, _, _, _]) hX dX12_picture_43 (Nat.le_of_ble_eq_true rfl) rfl rfl ?_
  refine zk_bipush (v := -9) hX dX12_picture_44 (by decide) ?_
  refine zk_istore (lo' := [_, _, _, _, _, _, _]) hX dX12_picture_46 (Nat.le_of_ble_eq_true rfl) rfl rfl ?_
  refine zk_iconst (v := 0) hX dX12_picture_48 (by decide) ?_
  refine zk_istore (lo' := [_, _, _, _, _, _, _]) hX dX12_picture_49 (Nat.le_of_ble_eq_true rfl) rfl rfl ?_
  refine zk_iconst (v := 0) hX dX12_picture_51 (by decide) ?_
  refine zk_istore (lo' := [_, _, _, _, _, _, _]) hX dX12_picture_52 (Nat.le_of_ble_eq_true rfl) rfl rfl ?_
  exact loop 98 0 w1 (by omega) (zFr_s q1.1 (by decide)) (hWn w1 q1.2) (fun j hj => absurd hj (by omega))
theorem gJ_M {D : zD} (hD : zDok D) {T : Nat} {W : zS} (i : Nat) : gJ D T W i = gM D T W i := by
  unfold gJ gM
  rw [zN_code hD]
  exact zcnt_c (fun i hi => rJ_code hD hi)
theorem zO_picture {G : zG} (r : Int32) : zOi G mX11_picture mX12_picture [.int r] := by
  intro w h
  have h0 := h
  obtain ⟨hw, hT, hR, hX, hB, D, z, u, v, T, n, nl, c, hH, hL, hS, hP, hK⟩ := h
  obtain ⟨hD, hH1, hM, hRe⟩ := hH
  by_cases hk0 : 0 ≤ r ∧ r < 6
  · obtain ⟨r, hr, rfl⟩ := r6 hk0
    rcases zshad hR hr with ⟨k, h5, e1, e2⟩ | ⟨f, e1, e2, e3, e4, e5, e6⟩
    · exact zO_find h0 k (s_X11_picture_f hw hr h5 e1) (s_X12_picture_f (zfind_w hw) hr e2)
    · by_cases hN : 4096 < zpr (zsp D) (dJ D)
      · exact zOe (s_X11_picture_s hw hr e1 (by rw [hRe.2.2.1, if_pos hN])) (s_X12_picture_s hw hM hD hr (e2 w rfl rfl) hN) rfl h0
      · refine zCi_m (s_X11_picture (G := G) (T := T) (f := f) hw hD hH1 hRe (by omega) hS.1 hS.2.1 hr e1 e3 e4) (fun a w1 g => ?_)
        obtain ⟨k3, k1, k2⟩ := g
        refine zCi_m (s_X12_picture (G := G) (w := w1) (D := D) (T := T) (r := r) (z := z) (u := u) (v := v) (f := f) (zFr_wf k1 hw) (mHd_f hM k1 (by decide)) hD (by omega) hS.1 (by rw [k1.2.2.2 24 (by decide)]; exact hS.2.2) (mLm_o hL.2.2 ⟨k1.2.2.2 25 (by decide), k1.2.2.2 26 (by decide), k1.2.2.2 27 (by decide)⟩) hL.1 hr (e2 w1 (k1.2.1 168 (by decide) (by decide)) (k1.2.1 169 (by decide) (by decide))) (fun y hy => by rw [k1.2.1 169 (by decide) (by decide)]; exact e5 y hy) e6) (fun a' w2 g => ?_)
        obtain ⟨k6, k4, k5⟩ := g
        have hF0 : zFr [1, 45, 179, 180, 181, 182, 191, 192, 193] [137, 138, 143, 144, 146, 163, 164, 165] [2, 25, 26, 27, 29] w w2 := zFr_t (zFr_s k1 (by decide)) (zFr_s k4 (by decide))
        have hF : zFr [1, 45, 179, 180, 181, 182, 191, 192, 193] [137, 138, 143, 144, 146, 163, 164, 165] [2, 29] w w2 := ⟨hF0.1, hF0.2.1, hF0.2.2.1, fun i hi => by
          by_cases e1 : i = 25
          · rw [e1, k5.1, hL.2.2.1]
          · by_cases e2 : i = 26
            · rw [e2, k5.2.1, hL.2.2.2.1]
            · by_cases e3 : i = 27
              · rw [e3, k5.2.2, hL.2.2.2.2]
              · exact hF0.2.2.2 i (by simp at hi ⊢; omega)⟩
        rw [k1.2.2.2 2 (by decide), ← hT.1] at k6
        obtain ⟨a1, a2⟩ := zPic_u k3 (zPic_c (fun i => (gJ_M hD i).symm) k6)
        refine ⟨a1, zQ_told h0 (zFr_wf hF hw) hF.2 (by decide) (qT_v hT ?_ ⟨hF.2.2.1 1 (by decide), hF.2.2.1 166 (by decide)⟩ ⟨?_, hF.2.2.2 0 (by decide)⟩ ⟨hF.2.1 2 (by decide) (by decide), hF.2.1 167 (by decide) (by decide)⟩)⟩
        · rw [k4.2.1 1 (by decide) (by decide), a2]
        · rw [k4.2.1 1 (by decide) (by decide), k2 3 (by decide)]
  · exact zOe (s_X11_picture_bad r hk0) (s_X12_picture_bad r hk0) rfl h0
