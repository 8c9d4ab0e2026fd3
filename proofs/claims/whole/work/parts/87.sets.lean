/-! sets: which poses a shadow can be -/
/-- a row that is to be a shadow: a finding on both sides, or lines on both -/
theorem zshad {w : zW} (hR : qR w) {r : Nat} (hr : r < 6) : (∃ k, (1 ≤ k ∧ k ≤ 5) ∧ c_shf w r r = nI k ∧ m_need (zfind w k) r = (-3, mfind (zfind w k) k)) ∨
    ∃ f : Nat → Nat, c_shf w r r = 0 ∧ (∀ w' : zW, w'.1 168 = w.1 168 → w'.1 169 = w.1 169 → m_need w' r = (0, w')) ∧ w.1 (4 + 2 * r) 0 = nI 10 ∧ (∀ y, y < 10 → w.1 (5 + 2 * r) y = nI (f y)) ∧ (∀ y, y < 10 → w.1 169 (40 * r + y) = nI (f y)) ∧ ∀ y, y < 10 → f y < 4096 := by
  have qr := hR r hr
  have sz := qr.1
  by_cases g1 : 0 ≤ w.1 168 r
  · by_cases g2 : w.1 168 r = 10
    · have er : ∀ y, y < 10 → w.1 (5 + 2 * r) y = w.1 169 (40 * r + y) := fun y hy => qr.2.2 10 g2 (by decide) y hy
      by_cases g3 : zLok (fun y => w.1 169 (40 * r + y))
      · have g4 : zLok (w.1 (5 + 2 * r)) := fun y hy => by rw [er y hy]; exact g3 y hy
        have hf : ∀ y, y < 10 → w.1 169 (40 * r + y) = nI (w.1 169 (40 * r + y)).toNatClampNeg ∧ (w.1 169 (40 * r + y)).toNatClampNeg < 4096 := by
          intro y hy
          obtain ⟨j, hj, e⟩ := znatle (n := 4095) (by decide) (g3 y hy).1 (g3 y hy).2
          have e : w.1 169 (40 * r + y) = nI j := e
          rw [e, nI_clamp (by omega)]
          exact ⟨rfl, by omega⟩
        refine Or.inr ⟨fun y => (w.1 169 (40 * r + y)).toNatClampNeg, ?_, fun w' a8 a9 => ?_, sz.trans g2, fun y hy => by rw [er y hy]; exact (hf y hy).1, fun y hy => (hf y hy).1, fun y hy => (hf y hy).2⟩
        · unfold c_shf
          rw [sz, if_neg (fun q => q ⟨g1, g1⟩), if_neg (fun q => q ⟨g2, g2⟩), if_pos ⟨g4, g4⟩]
        · unfold m_need
          rw [a8, a9, if_neg (not_not_intro g1), if_neg (not_not_intro g2), if_pos g3]
      · have g4 : ¬ zLok (w.1 (5 + 2 * r)) := fun q => g3 (fun y hy => by show 0 ≤ w.1 169 (40 * r + y) ∧ w.1 169 (40 * r + y) ≤ 4095; rw [← er y hy]; exact q y hy)
        exact Or.inl ⟨3, ⟨by decide, by decide⟩, by unfold c_shf; rw [sz, if_neg (fun q => q ⟨g1, g1⟩), if_neg (fun q => q ⟨g2, g2⟩), if_neg (fun q => g4 q.1)]; rfl, by unfold m_need; rw [zfind_a (by decide) (by decide), zfind_a (by decide) (by decide), if_neg (not_not_intro g1), if_neg (not_not_intro g2), if_neg g3]⟩
    · exact Or.inl ⟨5, ⟨by decide, by decide⟩, by unfold c_shf; rw [sz, if_neg (fun q => q ⟨g1, g1⟩), if_pos (fun q => g2 q.1)]; rfl, by unfold m_need; rw [zfind_a (by decide) (by decide), if_neg (not_not_intro g1), if_pos g2]⟩
  · exact Or.inl ⟨1, ⟨by decide, by decide⟩, by unfold c_shf; rw [sz, if_pos (fun q => g1 q.1)]; rfl, by unfold m_need; rw [zfind_a (by decide) (by decide), if_pos g1]⟩
theorem zshW {w : zW} {f : Nat → Nat} (h4 : ∀ y, y < 10 → f y < 4096) (h : ∀ y, y < 10 → w.1 191 y = nI (f y)) : mWn w (zofL f) := fun y hy => by rw [h y hy, zline_of (h4 y hy)]
theorem zalk_c {P P' : Nat → Bool} {tf : Nat → Nat → Int32} {n j : Nat} (h : ∀ i, i < n → P i = P' i) : zalk P tf n j = zalk P' tf n j := by
  rw [Bool.eq_iff_iff, zalk_m, zalk_m]
  exact ⟨fun q i k hi hk pi pk => q i k hi hk (by rw [h i hi]; exact pi) (by rw [h k hk]; exact pk), fun q i k hi hk pi pk => q i k hi hk (by rw [← h i hi]; exact pi) (by rw [← h k hk]; exact pk)⟩
theorem zalk_lh {w : zW} {P : Nat → Bool} {tf : Nat → Nat → Int32} {n nj j : Nat} (h : mLH w P tf n nj) (hj : j < nj) (hn : n < 20000) : zalk P tf n j = true ↔ (nI (zcnt P n) = 0 ∨ w.1 192 j = w.1 193 j) := by
  have h1 := (h j hj).1
  have h2 := (h j hj).2
  have hle := zcnt_le P n
  rw [zalk_m]
  constructor
  · intro q
    by_cases e : zcnt P n = 0
    · exact Or.inl (by rw [e]; rfl)
    · refine Or.inr ?_
      have ex : ∃ i, i < n ∧ P i = true := by
        rcases Decidable.em (∃ i, i < n ∧ P i = true) with g | g
        · exact g
        · exact absurd (zcnt_0.mpr (fun i hi pi => g ⟨i, hi, pi⟩)) e
      obtain ⟨⟨a, ha, pa, ea⟩, b, hb, pb, eb⟩ := h2 ex
      rw [← ea, ← eb]
      exact q a b ha hb pa pb
  · intro q i k hi hk pi pk
    rcases q with q | q
    · have e : zcnt P n = 0 := nI_inj (by omega) (by decide) q
      exact absurd pi (zcnt_0.mp e i hi)
    · have a1 := h1 i hi pi
      have a2 := h1 k hk pk
      rw [← q] at a1 a2
      exact (Int32.le_antisymm a1.2 a1.1).trans (Int32.le_antisymm a2.1 a2.2)
theorem zbits_or1 {P : Nat → Bool} {n : Nat} (h : P n = true) : zbits P n ||| (1 <<< n) = zbits P (n + 1) := by
  refine zbits_of (Nat.or_lt_two_pow (Nat.lt_trans (zbits_lt P n) (Nat.pow_lt_pow_right (by decide) (by omega))) (by rw [Nat.one_shiftLeft]; exact Nat.pow_lt_pow_right (by decide) (by omega))) (fun i hi => ?_)
  rw [Nat.testBit_or, zbits_bit, Nat.one_shiftLeft, Nat.testBit_two_pow]
  by_cases e : i = n
  · subst e
    simp [h]
  · have : i < n := by omega
    have e2 : ¬ n = i := fun z => e z.symm
    simp [this, e2]
theorem zbits_or0 {P : Nat → Bool} {n : Nat} (h : ¬ P n = true) : zbits P (n + 1) = zbits P n := by
  show zbits P n + (if P n = true then 2 ^ n else 0) = _
  rw [if_neg h, Nat.add_zero]
theorem s_X11_sets_bad {G : zG} {w : zW} (r : Int32) (h : ¬ (0 ≤ r ∧ r < 6)) : zEi G mX11_sets [.ref 0, .int r] w (-1) w := by
  refine zC_of (lo := [_, _, _]) kcX11_sets (Nat.le_of_ble_eq_true rfl) rfl (fun X hX hE => ?_)
  refine zk_iload_n hX dX11_sets_0 rfl ?_
  refine zk_S1i hX dX11_sets_1 kcX11_isRow mlX11_107 smX11_isRow rfl (s_X11_isRow _) (Nat.le_of_ble_eq_true rfl) rfl ?_
  refine zk_if_neB (tgt := 9) hX dX11_sets_4 (by decide) (fun c4 => ?_) (fun c4 => ?_)
  · exact absurd c4 h
  refine zk_iconst (v := -1) hX dX11_sets_7 (by decide) ?_
  refine zk_iret hX hE rfl ⟨rfl, rfl⟩ dX11_sets_8 ⟨_, rfl, ?_⟩
  exact ⟨rfl, rfl⟩
theorem s_X11_sets_f {G : zG} {w : zW} {r k : Nat} (hw : zWf w) (hr : r < 6) (h5 : 1 ≤ k ∧ k ≤ 5) (hf : c_shf w r r = nI k) : zEi G mX11_sets [.ref 0, .int (nI r)] w (-3) (zfind w k) := by
  refine zC_of (lo := [_, _, _]) kcX11_sets (Nat.le_of_ble_eq_true rfl) rfl (fun X hX hE => ?_)
  refine zk_iload_n hX dX11_sets_0 rfl ?_
  refine zk_S1i hX dX11_sets_1 kcX11_isRow mlX11_107 smX11_isRow rfl (s_X11_isRow _) (Nat.le_of_ble_eq_true rfl) rfl ?_
  refine zk_if_neB (tgt := 9) hX dX11_sets_4 (by decide) (fun c4 => ?_) (fun c4 => ?_)
  rotate_left
  · exact absurd (zrlt hr) c4
  refine zk_aload_n hX dX11_sets_9 rfl ?_
  refine zk_getR hX dX11_sets_10 flX11_18 k_0 z_0 (hw _ _ (by decide) |>.trans r_0_1) ?_
  refine zk_iload_n hX dX11_sets_13 rfl ?_
  refine zk_rows hX hw dX11_sets_14 rfl (by first | assumption | omega) ?_
  refine zk_aload_n hX dX11_sets_15 rfl ?_
  refine zk_getR hX dX11_sets_16 flX11_18 k_0 z_0 (hw _ _ (by decide) |>.trans r_0_1) ?_
  refine zk_iload_n hX dX11_sets_19 rfl ?_
  refine zk_rows hX hw dX11_sets_20 rfl (by first | assumption | omega) ?_
  refine zk_S2i hX dX11_sets_21 kcX11_shadowFinding mlX11_233 smX11_shadowFinding rfl (s_X11_shadowFinding hw hr hr) (Nat.le_of_ble_eq_true rfl) rfl ?_
  rw [hf]
  refine zk_istore_n (lo' := [_, _, _]) hX dX11_sets_24 (Nat.le_of_ble_eq_true rfl) rfl rfl ?_
  refine zk_iload_n hX dX11_sets_25 rfl ?_
  refine zk_if_eq (tgt := 38) hX dX11_sets_26 (by decide) (fun c26 => ?_) (fun c26 => ?_)
  · exact absurd (nI_inj (a := k) (b := 0) (by omega) (by decide) c26) (by omega)
  refine zk_aload_n hX dX11_sets_29 rfl ?_
  refine zk_getR hX dX11_sets_30 flX11_12 k_0 z_0 (hw _ _ (by decide) |>.trans r_0_0) ?_
  refine zk_iload_n hX dX11_sets_33 rfl ?_
  refine zk_V1i hX dX11_sets_34 kcX9_find mlX11_111 viX9_find rfl k_1 z_1 (s_X9_find hw k h5) (Nat.le_of_ble_eq_true rfl) rfl ?_
  refine zk_iret hX hE rfl ⟨rfl, rfl⟩ dX11_sets_37 ⟨_, rfl, ?_⟩
  exact ⟨rfl, rfl⟩
theorem s_X11_sets_s {G : zG} {w : zW} {r : Nat} (hw : zWf w) (hr : r < 6) (h0 : c_shf w r r = 0) (hs : w.1 131 0 = 1) : zEi G mX11_sets [.ref 0, .int (nI r)] w (-6) w := by
  refine zC_of (lo := [_, _, _]) kcX11_sets (Nat.le_of_ble_eq_true rfl) rfl (fun X hX hE => ?_)
  refine zk_iload_n hX dX11_sets_0 rfl ?_
  refine zk_S1i hX dX11_sets_1 kcX11_isRow mlX11_107 smX11_isRow rfl (s_X11_isRow _) (Nat.le_of_ble_eq_true rfl) rfl ?_
  refine zk_if_neB (tgt := 9) hX dX11_sets_4 (by decide) (fun c4 => ?_) (fun c4 => ?_)
  rotate_left
  · exact absurd (zrlt hr) c4
  refine zk_aload_n hX dX11_sets_9 rfl ?_
  refine zk_getR hX dX11_sets_10 flX11_18 k_0 z_0 (hw _ _ (by decide) |>.trans r_0_1) ?_
  refine zk_iload_n hX dX11_sets_13 rfl ?_
  refine zk_rows hX hw dX11_sets_14 rfl (by first | assumption | omega) ?_
  refine zk_aload_n hX dX11_sets_15 rfl ?_
  refine zk_getR hX dX11_sets_16 flX11_18 k_0 z_0 (hw _ _ (by decide) |>.trans r_0_1) ?_
  refine zk_iload_n hX dX11_sets_19 rfl ?_
  refine zk_rows hX hw dX11_sets_20 rfl (by first | assumption | omega) ?_
  refine zk_S2i hX dX11_sets_21 kcX11_shadowFinding mlX11_233 smX11_shadowFinding rfl (s_X11_shadowFinding hw hr hr) (Nat.le_of_ble_eq_true rfl) rfl ?_
  rw [h0]
  refine zk_istore_n (lo' := [_, _, _]) hX dX11_sets_24 (Nat.le_of_ble_eq_true rfl) rfl rfl ?_
  refine zk_iload_n hX dX11_sets_25 rfl ?_
  refine zk_if_eq (tgt := 38) hX dX11_sets_26 (by decide) (fun c26 => ?_) (fun c26 => ?_)
  rotate_left
  · exact absurd rfl c26
  refine zk_aload_n hX dX11_sets_38 rfl ?_
  refine zk_getR hX dX11_sets_39 flX11_83 k_0 z_0 (hw _ _ (by decide) |>.trans r_0_13) ?_
  refine zk_getI hX dX11_sets_42 flX11_302 k_131 z_131 ?_
  rw [hs]
  refine zk_if_eq (tgt := 51) hX dX11_sets_45 (by decide) (fun c45 => ?_) (fun c45 => ?_)
  · exact absurd c45 (by decide)
  refine zk_bipush (v := -6) hX dX11_sets_48 (by decide) ?_
  refine zk_iret hX hE rfl ⟨rfl, rfl⟩ dX11_sets_50 ⟨_, rfl, ?_⟩
  exact ⟨rfl, rfl⟩
theorem s_X11_sets {G : zG} {w : zW} {D : zD} {r z u v T : Nat} {f : Nat → Nat} (hw : zWf w) (hD : zDok D) (hH : cHd w 26 D) (hRe : cRe w D) (hN : zpr (zsp D) (dJ D) ≤ 4096) (hT9 : T ≤ 99) (hS : w.1 0 8 = nI T) (hL : zLm w 44 z u v) (ho : zlok z u v) (hr : r < 6) (h0 : c_shf w r r = 0) (h10 : w.1 (4 + 2 * r) 0 = nI 10) (hf : ∀ y, y < 10 → w.1 (5 + 2 * r) y = nI (f y)) :
    zCi G mX11_sets [.ref 0, .int (nI r)] w (fun a w' => a = nI (zcnt (rJ D (-1) z u v T (zofL f)) (zN_ D (-1) (dF D))) ∧ zFr [1] [137, 138, 143, 144, 146, 164] [] w w' ∧ (∀ i, i ≠ 0 → w'.1 1 i = w.1 1 i) ∧ w'.1 1 0 = nI (zbits (zalk (rJ D (-1) z u v T (zofL f)) (zcode_t D) (zN_ D (-1) (dF D))) (dJ D))) := by
  have hc := hRe.2.2.2 hN
  have hs : w.1 131 0 = 0 := by rw [hRe.2.2.1, if_neg (by omega)]
  have hC4 : zCe 164 := ⟨by decide, by decide +kernel⟩
  have hT : cTab w D (-1) := ⟨hc.1, hc.2, by rw [zN_code hD]; exact hN⟩
  have csh := s_X8_showTo (G := G) hw (zRwR hr) hC4 h10 (fun y hy => by rw [show 4 + 2 * r + 1 = 5 + 2 * r by omega]; exact hf y hy)
  generalize zofL f = W at *
  have hw1 : zWf (zsetS w 164 W) := zWf_of hw rfl
  have hF1 : zFr [1] [137, 138, 143, 144, 146, 164] [] w (zsetS w 164 W) := zFr_S (by decide)
  refine zC_of (lo := [_, _, _]) kcX11_sets (Nat.le_of_ble_eq_true rfl) rfl (fun X hX hE => ?_)
  refine zk_iload_n hX dX11_sets_0 rfl ?_
  refine zk_S1i hX dX11_sets_1 kcX11_isRow mlX11_107 smX11_isRow rfl (s_X11_isRow _) (Nat.le_of_ble_eq_true rfl) rfl ?_
  refine zk_if_neB (tgt := 9) hX dX11_sets_4 (by decide) (fun c4 => ?_) (fun c4 => ?_)
  rotate_left
  · exact absurd (zrlt hr) c4
  refine zk_aload_n hX dX11_sets_9 rfl ?_
  refine zk_getR hX dX11_sets_10 flX11_18 k_0 z_0 (hw _ _ (by decide) |>.trans r_0_1) ?_
  refine zk_iload_n hX dX11_sets_13 rfl ?_
  refine zk_rows hX hw dX11_sets_14 rfl (by first | assumption | omega) ?_
  refine zk_aload_n hX dX11_sets_15 rfl ?_
  refine zk_getR hX dX11_sets_16 flX11_18 k_0 z_0 (hw _ _ (by decide) |>.trans r_0_1) ?_
  refine zk_iload_n hX dX11_sets_19 rfl ?_
  refine zk_rows hX hw dX11_sets_20 rfl (by first | assumption | omega) ?_
  refine zk_S2i hX dX11_sets_21 kcX11_shadowFinding mlX11_233 smX11_shadowFinding rfl (s_X11_shadowFinding hw hr hr) (Nat.le_of_ble_eq_true rfl) rfl ?_
  rw [h0]
  refine zk_istore_n (lo' := [_, _, _]) hX dX11_sets_24 (Nat.le_of_ble_eq_true rfl) rfl rfl ?_
  refine zk_iload_n hX dX11_sets_25 rfl ?_
  refine zk_if_eq (tgt := 38) hX dX11_sets_26 (by decide) (fun c26 => ?_) (fun c26 => ?_)
  rotate_left
  · exact absurd rfl c26
  refine zk_aload_n hX dX11_sets_38 rfl ?_
  refine zk_getR hX dX11_sets_39 flX11_83 k_0 z_0 (hw _ _ (by decide) |>.trans r_0_13) ?_
  refine zk_getI hX dX11_sets_42 flX11_302 k_131 z_131 ?_
  rw [hs]
  refine zk_if_eq (tgt := 51) hX dX11_sets_45 (by decide) (fun c45 => ?_) (fun c45 => ?_)
  rotate_left
  · exact absurd rfl c45
  refine zk_aload_n hX dX11_sets_51 rfl ?_
  refine zk_getR hX dX11_sets_52 flX11_18 k_0 z_0 (hw _ _ (by decide) |>.trans r_0_1) ?_
  refine zk_iload_n hX dX11_sets_55 rfl ?_
  refine zk_rows hX hw dX11_sets_56 rfl (by first | assumption | omega) ?_
  refine zk_aload_n hX dX11_sets_57 rfl ?_
  refine zk_getR hX dX11_sets_58 flX11_101 k_0 z_0 (hw _ _ (by decide) |>.trans r_0_16) ?_
  refine zk_V1v hX dX11_sets_61 kcX8_showTo mlX11_240 viX8_showTo rfl (zRwR0 (by first | assumption | omega)) (zRw_r _ (by first | assumption | omega)).2.1 csh (Nat.le_of_ble_eq_true rfl) rfl ?_
  refine zk_aload_n hX dX11_sets_64 rfl ?_
  refine zk_getR hX dX11_sets_65 flX11_83 k_0 z_0 (hw1 _ _ (by decide) |>.trans r_0_13) ?_
  refine zk_aload_n hX dX11_sets_68 rfl ?_
  refine zk_getR hX dX11_sets_69 flX11_38 k_0 z_0 (hw1 _ _ (by decide) |>.trans r_0_4) ?_
  refine zk_aload_n hX dX11_sets_72 rfl ?_
  refine zk_getR hX dX11_sets_73 flX11_48 k_0 z_0 (hw1 _ _ (by decide) |>.trans r_0_6) ?_
  refine zk_iconst (v := -1) hX dX11_sets_76 (by decide) ?_
  refine zk_V3vp hX dX11_sets_77 kcX6_shade mlX11_311 viX6_shade rfl k_131 z_131 (s_X6_shade hw1 (cHd_o hH (fun a _ _ => congrFun zsetS_1 a)) hD (cRe_f hRe hF1.2 (by decide)).2.1 hN (Or.inl rfl) (zLm_o hL rfl) ho (-1)) (Nat.le_of_ble_eq_true rfl) rfl (fun w2 q2 => ?_)
  have hw2 := zFr_wf q2.1 hw1
  have hF2 : zFr [1] [137, 138, 143, 144, 146, 164] [] w w2 := zFr_t hF1 (zFr_s q2.1 (by decide))
  have hT2 := cTab_f hT hF2 (by decide)
  have hH2 : cHd w2 26 D := cHd_o hH (fun a h1 h2 => hF2.2.1 a (by simp; omega) (by omega))
  have hS2 : cStep w2 D := (cRe_f hRe hF2.2 (by decide)).1
  have h42 : zHas w2 164 W := zHas_o zsetS_has (q2.1.2.2.1 164 (by decide))
  have e8 : w2.1 0 8 = nI T := (by rw [hF2.2.1 0 (by decide) (by decide)]; exact hS)
  have hw3 : zWf (zsi w2 1 0 (nI (zbits (zalk (rJ D (-1) z u v T W) (zcode_t D) (zN_ D (-1) (dF D))) (dJ D)))) := zWf_i hw2
  refine zk_aload_n hX dX11_sets_80 rfl ?_
  refine zk_getR hX dX11_sets_81 flX11_12 k_0 z_0 (hw2 _ _ (by decide) |>.trans r_0_0) ?_
  refine zk_aload_n hX dX11_sets_84 rfl ?_
  refine zk_getR hX dX11_sets_85 flX11_83 k_0 z_0 (hw2 _ _ (by decide) |>.trans r_0_13) ?_
  refine zk_aload_n hX dX11_sets_88 rfl ?_
  refine zk_getR hX dX11_sets_89 flX11_38 k_0 z_0 (hw2 _ _ (by decide) |>.trans r_0_4) ?_
  refine zk_aload_n hX dX11_sets_92 rfl ?_
  refine zk_getR hX dX11_sets_93 flX11_101 k_0 z_0 (hw2 _ _ (by decide) |>.trans r_0_16) ?_
  refine zk_aload_n hX dX11_sets_96 rfl ?_
  refine zk_getI hX dX11_sets_97 flX11_55 k_0 z_0 ?_
  rw [e8]
  refine zk_V3i hX dX11_sets_100 kcX6_alikeJoints mlX11_339 viX6_alikeJoints rfl k_131 z_131 (s_X6_alikeJoints hw2 hD hH2 hS2 hT9 hT2 q2.2 hC4 h42) (Nat.le_of_ble_eq_true rfl) rfl ?_
  refine zk_V1i hX dX11_sets_103 kcX9_tell mlX11_132 viX9_tell rfl k_1 z_1 (s_X9_tell _) (Nat.le_of_ble_eq_true rfl) rfl ?_
  refine zk_pop hX dX11_sets_106 rfl ?_
  refine zk_aload_n hX dX11_sets_107 rfl ?_
  refine zk_getR hX dX11_sets_108 flX11_83 k_0 z_0 (hw3 _ _ (by decide) |>.trans r_0_13) ?_
  refine zk_aload_n hX dX11_sets_111 rfl ?_
  refine zk_getR hX dX11_sets_112 flX11_101 k_0 z_0 (hw3 _ _ (by decide) |>.trans r_0_16) ?_
  refine zk_aload_n hX dX11_sets_115 rfl ?_
  refine zk_getI hX dX11_sets_116 flX11_55 k_0 z_0 ?_
  rw [zsi_o (by decide), e8]
  refine zk_V2i hX dX11_sets_119 kcX6_numberThrowing mlX11_343 viX6_numberThrowing rfl k_131 z_131 (s_X6_numberThrowing hw3 hD hT9 (cTab_f hT2 (A := [1]) (B := []) (F := []) (zFr_i (by decide) (by decide)) (by decide)) (cThr_f q2.2 (A := [1]) (B := []) (F := []) (zFr_i (by decide) (by decide)) (by decide)) hC4 (zHas_o h42 rfl)) (Nat.le_of_ble_eq_true rfl) rfl ?_
  refine zk_iret hX hE rfl ⟨rfl, rfl⟩ dX11_sets_122 ⟨_, rfl, ?_⟩
  refine ⟨rfl, zFr_t hF2 (zFr_i (by decide) (by decide)), fun i hi => ?_, by rw [zsi_1, if_pos ⟨rfl, rfl⟩]⟩
  rw [zsi_1, if_neg (fun q => hi q.2), q2.1.2.1 1 (by decide) (by decide)]
  rfl
theorem s_X12_sets_bad {G : zG} {w : zW} (r : Int32) (h : ¬ (0 ≤ r ∧ r < 6)) : zEi G mX12_sets [.ref 166, .int r] w (-1) w := by
  refine zC_of (lo := [_, _, _, _, _, _]) kcX12_sets (Nat.le_of_ble_eq_true rfl) rfl (fun X hX hE => ?_)
  refine zk_iload_n hX dX12_sets_0 rfl ?_
  refine zk_S1i hX dX12_sets_1 kcX12_isRow mlX12_141 smX12_isRow rfl (s_X12_isRow _) (Nat.le_of_ble_eq_true rfl) rfl ?_
  refine zk_if_neB (tgt := 9) hX dX12_sets_4 (by decide) (fun c4 => ?_) (fun c4 => ?_)
  · exact absurd c4 (r65 h)
  refine zk_iconst (v := -1) hX dX12_sets_7 (by decide) ?_
  refine zk_iret hX hE rfl ⟨rfl, rfl⟩ dX12_sets_8 ⟨_, rfl, ?_⟩
  exact ⟨rfl, rfl⟩
theorem s_X12_sets_f {G : zG} {w : zW} {r k : Nat} (hw : zWf w) (hr : r < 6) (hf : m_need w r = (-3, mfind w k)) : zEi G mX12_sets [.ref 166, .int (nI r)] w (-3) (mfind w k) := by
  have c1 := s_X12_needShadow (G := G) hw hr
  unfold zFi at c1
  rw [hf] at c1
  have c1 : zEi G mX12_needShadow [.ref 166, .int (nI r)] w (-3) (mfind w k) := c1
  refine zC_of (lo := [_, _, _, _, _, _]) kcX12_sets (Nat.le_of_ble_eq_true rfl) rfl (fun X hX hE => ?_)
  refine zk_iload_n hX dX12_sets_0 rfl ?_
  refine zk_S1i hX dX12_sets_1 kcX12_isRow mlX12_141 smX12_isRow rfl (s_X12_isRow _) (Nat.le_of_ble_eq_true rfl) rfl ?_
  refine zk_if_neB (tgt := 9) hX dX12_sets_4 (by decide) (fun c4 => ?_) (fun c4 => ?_)
  rotate_left
  · exact absurd (zrle (n := 5) (by omega)) c4
  refine zk_aload_n hX dX12_sets_9 rfl ?_
  refine zk_iload_n hX dX12_sets_10 rfl ?_
  refine zk_V1i hX dX12_sets_11 kcX12_needShadow mlX12_296 viX12_needShadow rfl k_166 z_166 c1 (Nat.le_of_ble_eq_true rfl) rfl ?_
  refine zk_istore_n (lo' := [_, _, _, _, _, _]) hX dX12_sets_14 (Nat.le_of_ble_eq_true rfl) rfl rfl ?_
  refine zk_iload_n hX dX12_sets_15 rfl ?_
  refine zk_if_ge (tgt := 21) hX dX12_sets_16 (by decide) (fun c16 => ?_) (fun c16 => ?_)
  · exact absurd c16 (by decide)
  refine zk_iload_n hX dX12_sets_19 rfl ?_
  refine zk_iret hX hE rfl ⟨rfl, rfl⟩ dX12_sets_20 ⟨_, rfl, ?_⟩
  exact ⟨rfl, rfl⟩
theorem s_X12_sets_s {G : zG} {w : zW} {D : zD} {r : Nat} (hw : zWf w) (hM : mHd w D) (hD : zDok D) (hr : r < 6) (h0 : m_need w r = (0, w)) (hN : 4096 < zpr (zsp D) (dJ D)) : zEi G mX12_sets [.ref 166, .int (nI r)] w (-6) w := by
  have hN0 := zpr_le hD (Nat.le_refl _)
  have c1 := s_X12_needShadow (G := G) hw hr
  unfold zFi at c1
  rw [h0] at c1
  have c1 : zEi G mX12_needShadow [.ref 166, .int (nI r)] w 0 w := c1
  refine zC_of (lo := [_, _, _, _, _, _]) kcX12_sets (Nat.le_of_ble_eq_true rfl) rfl (fun X hX hE => ?_)
  refine zk_iload_n hX dX12_sets_0 rfl ?_
  refine zk_S1i hX dX12_sets_1 kcX12_isRow mlX12_141 smX12_isRow rfl (s_X12_isRow _) (Nat.le_of_ble_eq_true rfl) rfl ?_
  refine zk_if_neB (tgt := 9) hX dX12_sets_4 (by decide) (fun c4 => ?_) (fun c4 => ?_)
  rotate_left
  · exact absurd (zrle (n := 5) (by omega)) c4
  refine zk_aload_n hX dX12_sets_9 rfl ?_
  refine zk_iload_n hX dX12_sets_10 rfl ?_
  refine zk_V1i hX dX12_sets_11 kcX12_needShadow mlX12_296 viX12_needShadow rfl k_166 z_166 c1 (Nat.le_of_ble_eq_true rfl) rfl ?_
  refine zk_istore_n (lo' := [_, _, _, _, _, _]) hX dX12_sets_14 (Nat.le_of_ble_eq_true rfl) rfl rfl ?_
  refine zk_iload_n hX dX12_sets_15 rfl ?_
  refine zk_if_ge (tgt := 21) hX dX12_sets_16 (by decide) (fun c16 => ?_) (fun c16 => ?_)
  rotate_left
  · exact absurd (by decide) c16
  refine zk_aload_n hX dX12_sets_21 rfl ?_
  refine zk_V0i hX dX12_sets_22 kcX12_turnsMany mlX12_329 viX12_turnsMany rfl k_166 z_166 (s_X12_turnsMany hw hM hD) (Nat.le_of_ble_eq_true rfl) rfl ?_
  refine zk_sipush (v := 4096) hX dX12_sets_25 (by decide) ?_
  refine zk_icmp_le (tgt := 34) hX dX12_sets_28 (by decide) (fun c28 => ?_) (fun c28 => ?_)
  · exact absurd c28 (fun z => absurd (nI_leD (y := 4096) z) (by omega))
  refine zk_bipush (v := -6) hX dX12_sets_31 (by decide) ?_
  refine zk_iret hX hE rfl ⟨rfl, rfl⟩ dX12_sets_33 ⟨_, rfl, ?_⟩
  exact ⟨rfl, rfl⟩
theorem s_X12_sets {G : zG} {w : zW} {D : zD} {r z u v T : Nat} {f : Nat → Nat} (hw : zWf w) (hM : mHd w D) (hD : zDok D) (hN : zpr (zsp D) (dJ D) ≤ 4096) (hT9 : T ≤ 99) (hS : w.1 166 24 = nI T) (hl : mLm w z u v) (ho : zlok z u v) (hr : r < 6) (h0 : m_need w r = (0, w)) (hf : ∀ y, y < 10 → w.1 169 (40 * r + y) = nI (f y)) (h4 : ∀ y, y < 10 → f y < 4096) :
    zCi G mX12_sets [.ref 166, .int (nI r)] w (fun a w' => a = nI (zcnt (mJ D z u v T (zofL f)) (zpr (zsp D) (dJ D))) ∧ zFr [179, 180, 181, 182, 191, 192, 193] [] [2, 29] w w' ∧ w'.1 166 2 = nI (zbits (zalk (mJ D z u v T (zofL f)) (zcode_t D) (zpr (zsp D) (dJ D))) (dJ D))) := by
  have h6 := hD.1.2.2
  have c1 := s_X12_needShadow (G := G) hw hr
  unfold zFi at c1
  rw [h0] at c1
  have c1 : zEi G mX12_needShadow [.ref 166, .int (nI r)] w 0 w := c1
  refine zC_of (lo := [_, _, _, _, _, _]) kcX12_sets (Nat.le_of_ble_eq_true rfl) rfl (fun X hX hE => ?_)
  have loop : ∀ m i w1, i + m = dJ D → zFr [179, 180, 181, 182, 191, 192, 193] [] [2, 29] w w1 → mLH w1 (mJ D z u v T (zofL f)) (zcode_t D) (zpr (zsp D) (dJ D)) (dJ D) → zk0 G X mX12_sets 50 [.ref 166, .int (nI r), .int 0, .int (nI (zcnt (mJ D z u v T (zofL f)) (zpr (zsp D) (dJ D)))), .int (nI (zbits (zalk (mJ D z u v T (zofL f)) (zcode_t D) (zpr (zsp D) (dJ D))) i)), .int (nI i)] [] w1 := by
    intro m
    induction m with
    | zero =>
      intro i w1 hi hF hLH
      obtain rfl : i = dJ D := by omega
      have hw1 := zFr_wf hF hw
      have hM1 := mHd_f hM hF (by decide)
      refine zk_iload hX dX12_sets_50 rfl ?_
      refine zk_aload_n hX dX12_sets_52 rfl ?_
      refine zk_getI hX dX12_sets_53 flX12_199 k_166 z_166 ?_
      rw [hM1.1.2.2]
      refine zk_icmp_ge (tgt := 99) hX dX12_sets_56 (by decide) (fun c56 => ?_) (fun c56 => ?_)
      rotate_left
      · exact absurd (nI_le (Nat.le_refl _) (by omega)) c56
      refine zk_aload_n hX dX12_sets_99 rfl ?_
      refine zk_iload hX dX12_sets_100 rfl ?_
      refine zk_iload_n hX dX12_sets_102 rfl ?_
      refine zk_V2i hX dX12_sets_103 kcX12_tells mlX12_153 viX12_tells rfl k_166 z_166 (s_X12_tells _ _) (Nat.le_of_ble_eq_true rfl) rfl ?_
      refine zk_iret hX hE rfl ⟨rfl, rfl⟩ dX12_sets_106 ⟨_, rfl, ?_⟩
      exact ⟨rfl, zFr_t hF (zFr_m (by decide)), by rw [zsi_1, if_pos ⟨rfl, rfl⟩]⟩
    | succ m ih =>
      intro i w1 hi hF hLH
      have hw1 := zFr_wf hF hw
      have hM1 := mHd_f hM hF (by decide)
      have h9 := ih (i + 1) w1 (by omega) hF hLH
      have key := zalk_lh hLH (show i < dJ D by omega) (by omega)
      refine zk_iload hX dX12_sets_50 rfl ?_
      refine zk_aload_n hX dX12_sets_52 rfl ?_
      refine zk_getI hX dX12_sets_53 flX12_199 k_166 z_166 ?_
      rw [hM1.1.2.2]
      refine zk_icmp_ge (tgt := 99) hX dX12_sets_56 (by decide) (fun c56 => ?_) (fun c56 => ?_)
      · exact absurd c56 (nI_ge (by omega) (by omega))
      refine zk_iload hX dX12_sets_59 rfl ?_
      refine zk_iload_n hX dX12_sets_61 rfl ?_
      refine zk_if_eq (tgt := 82) hX dX12_sets_62 (by decide) (fun c62 => ?_) (fun c62 => ?_)
      · refine zk_iconst (v := 1) hX dX12_sets_82 (by decide) ?_
        refine zk_iload hX dX12_sets_83 rfl ?_
        rw [show (1 : Int32) = nI 1 from rfl]
        refine zk_ishl hX dX12_sets_85 ?_
        rw [nI_shl _ (by omega)]
        refine zk_goto (tgt := 90) hX dX12_sets_86 (by decide) ?_
        refine zk_ior hX dX12_sets_90 ?_
        first | rw [nI_or] | rw [Int32.or_zero]
        refine zk_istore (lo' := [_, _, _, _, _, _]) hX dX12_sets_91 (Nat.le_of_ble_eq_true rfl) rfl rfl ?_
        refine zk_iinc (lo' := [_, _, _, _, _, _]) hX dX12_sets_93 rfl (by first | exact zinc _ | exact rfl) (Nat.le_of_ble_eq_true rfl) rfl rfl ?_
        refine zk_goto (tgt := 50) hX dX12_sets_96 (by decide) ?_
        first
        | (rw [← zbits_or1 (key.mpr (Or.inl (by first | exact c62 | exact Decidable.not_not.mp c62)))] at h9; exact h9)
        | (rw [← zbits_or1 (key.mpr (Or.inr (by first | exact c79 | exact Decidable.not_not.mp c79)))] at h9; exact h9)
        | (rw [zbits_or0 (fun q => (key.mp q).elim c62 c79)] at h9; exact h9)
      · refine zk_aload_n hX dX12_sets_65 rfl ?_
        refine zk_getR hX dX12_sets_66 flX12_87 k_166 z_166 (hw1 _ _ (by decide) |>.trans r_166_44) ?_
        refine zk_iload hX dX12_sets_69 rfl ?_
        refine zk_ialdE hX dX12_sets_71 rfl k_192 z_192 (by first | assumption | omega) rfl ?_
        refine zk_aload_n hX dX12_sets_72 rfl ?_
        refine zk_getR hX dX12_sets_73 flX12_90 k_166 z_166 (hw1 _ _ (by decide) |>.trans r_166_45) ?_
        refine zk_iload hX dX12_sets_76 rfl ?_
        refine zk_ialdE hX dX12_sets_78 rfl k_193 z_193 (by first | assumption | omega) rfl ?_
        refine zk_icmp_ne (tgt := 89) hX dX12_sets_79 (by decide) (fun c79 => ?_) (fun c79 => ?_)
        · refine zk_iconst (v := 0) hX dX12_sets_89 (by decide) ?_
          refine zk_ior hX dX12_sets_90 ?_
          first | rw [nI_or] | rw [Int32.or_zero]
          refine zk_istore (lo' := [_, _, _, _, _, _]) hX dX12_sets_91 (Nat.le_of_ble_eq_true rfl) rfl rfl ?_
          refine zk_iinc (lo' := [_, _, _, _, _, _]) hX dX12_sets_93 rfl (by first | exact zinc _ | exact rfl) (Nat.le_of_ble_eq_true rfl) rfl rfl ?_
          refine zk_goto (tgt := 50) hX dX12_sets_96 (by decide) ?_
          first
          | (rw [← zbits_or1 (key.mpr (Or.inl (by first | exact c62 | exact Decidable.not_not.mp c62)))] at h9; exact h9)
          | (rw [← zbits_or1 (key.mpr (Or.inr (by first | exact c79 | exact Decidable.not_not.mp c79)))] at h9; exact h9)
          | (rw [zbits_or0 (fun q => (key.mp q).elim c62 c79)] at h9; exact h9)
        · refine zk_iconst (v := 1) hX dX12_sets_82 (by decide) ?_
          refine zk_iload hX dX12_sets_83 rfl ?_
          rw [show (1 : Int32) = nI 1 from rfl]
          refine zk_ishl hX dX12_sets_85 ?_
          rw [nI_shl _ (by omega)]
          refine zk_goto (tgt := 90) hX dX12_sets_86 (by decide) ?_
          refine zk_ior hX dX12_sets_90 ?_
          first | rw [nI_or] | rw [Int32.or_zero]
          refine zk_istore (lo' := [_, _, _, _, _, _]) hX dX12_sets_91 (Nat.le_of_ble_eq_true rfl) rfl rfl ?_
          refine zk_iinc (lo' := [_, _, _, _, _, _]) hX dX12_sets_93 rfl (by first | exact zinc _ | exact rfl) (Nat.le_of_ble_eq_true rfl) rfl rfl ?_
          refine zk_goto (tgt := 50) hX dX12_sets_96 (by decide) ?_
          first
          | (rw [← zbits_or1 (key.mpr (Or.inl (by first | exact c62 | exact Decidable.not_not.mp c62)))] at h9; exact h9)
          | (rw [← zbits_or1 (key.mpr (Or.inr (by first | exact c79 | exact Decidable.not_not.mp c79)))] at h9; exact h9)
          | (rw [zbits_or0 (fun q => (key.mp q).elim c62 c79)] at h9; exact h9)
  refine zk_iload_n hX dX12_sets_0 rfl ?_
  refine zk_S1i hX dX12_sets_1 kcX12_isRow mlX12_141 smX12_isRow rfl (s_X12_isRow _) (Nat.le_of_ble_eq_true rfl) rfl ?_
  refine zk_if_neB (tgt := 9) hX dX12_sets_4 (by decide) (fun c4 => ?_) (fun c4 => ?_)
  rotate_left
  · exact absurd (zrle (n := 5) (by omega)) c4
  refine zk_aload_n hX dX12_sets_9 rfl ?_
  refine zk_iload_n hX dX12_sets_10 rfl ?_
  refine zk_V1i hX dX12_sets_11 kcX12_needShadow mlX12_296 viX12_needShadow rfl k_166 z_166 c1 (Nat.le_of_ble_eq_true rfl) rfl ?_
  refine zk_istore_n (lo' := [_, _, _, _, _, _]) hX dX12_sets_14 (Nat.le_of_ble_eq_true rfl) rfl rfl ?_
  refine zk_iload_n hX dX12_sets_15 rfl ?_
  refine zk_if_ge (tgt := 21) hX dX12_sets_16 (by decide) (fun c16 => ?_) (fun c16 => ?_)
  rotate_left
  · exact absurd (by decide) c16
  refine zk_aload_n hX dX12_sets_21 rfl ?_
  refine zk_V0i hX dX12_sets_22 kcX12_turnsMany mlX12_329 viX12_turnsMany rfl k_166 z_166 (s_X12_turnsMany hw hM hD) (Nat.le_of_ble_eq_true rfl) rfl ?_
  refine zk_sipush (v := 4096) hX dX12_sets_25 (by decide) ?_
  refine zk_icmp_le (tgt := 34) hX dX12_sets_28 (by decide) (fun c28 => ?_) (fun c28 => ?_)
  rotate_left
  · exact absurd (nI_le (b := 4096) hN (by decide)) c28
  refine zk_aload_n hX dX12_sets_34 rfl ?_
  refine zk_iload_n hX dX12_sets_35 rfl ?_
  refine zk_V1vp hX dX12_sets_36 kcX12_layWanted mlX12_350 viX12_layWanted rfl k_166 z_166 (s_X12_layWanted hw hr) (Nat.le_of_ble_eq_true rfl) rfl (fun w1 q1 => ?_)
  have hw1 := zFr_wf q1.1 hw
  have hM1 := mHd_f hM q1.1 (by decide)
  refine zk_aload_n hX dX12_sets_39 rfl ?_
  refine zk_V0ip hX dX12_sets_40 kcX12_throwMany mlX12_353 viX12_throwMany rfl k_166 z_166 (s_X12_throwMany (T := T) (W := zofL f) hw1 hM1 hD (by rw [q1.1.2.2.2 24 (by decide)]; exact hS) hT9 hN (mLm_o hl ⟨q1.1.2.2.2 25 (by decide), q1.1.2.2.2 26 (by decide), q1.1.2.2.2 27 (by decide)⟩) ho (zshW h4 (fun y hy => by rw [q1.2 y hy]; exact hf y hy))) (Nat.le_of_ble_eq_true rfl) rfl (fun n2 w2 q2 => ?_)
  obtain ⟨rfl, q2, q3⟩ := q2
  refine zk_istore_n (lo' := [_, _, _, _, _, _]) hX dX12_sets_43 (Nat.le_of_ble_eq_true rfl) rfl rfl ?_
  refine zk_iconst (v := 0) hX dX12_sets_44 (by decide) ?_
  refine zk_istore (lo' := [_, _, _, _, _, _]) hX dX12_sets_45 (Nat.le_of_ble_eq_true rfl) rfl rfl ?_
  refine zk_iconst (v := 0) hX dX12_sets_47 (by decide) ?_
  refine zk_istore (lo' := [_, _, _, _, _, _]) hX dX12_sets_48 (Nat.le_of_ble_eq_true rfl) rfl rfl ?_
  exact loop (dJ D) 0 w2 (by omega) (zFr_t (zFr_s q1.1 (by decide)) (zFr_s q2 (by decide))) q3
theorem zO_sets {G : zG} (r : Int32) : zOi G mX11_sets mX12_sets [.int r] := by
  intro w h
  have h0 := h
  obtain ⟨hw, hT, hR, hX, hB, D, z, u, v, T, n, nl, c, hH, hL, hS, hP, hK⟩ := h
  obtain ⟨hD, hH1, hM, hRe⟩ := hH
  by_cases hk0 : 0 ≤ r ∧ r < 6
  · obtain ⟨r, hr, rfl⟩ := r6 hk0
    rcases zshad hR hr with ⟨k, h5, e1, e2⟩ | ⟨f, e1, e2, e3, e4, e5, e6⟩
    · exact zO_find h0 k (s_X11_sets_f hw hr h5 e1) (s_X12_sets_f (zfind_w hw) hr e2)
    · by_cases hN : 4096 < zpr (zsp D) (dJ D)
      · exact zOe (s_X11_sets_s hw hr e1 (by rw [hRe.2.2.1, if_pos hN])) (s_X12_sets_s hw hM hD hr (e2 w rfl rfl) hN) rfl h0
      · refine zCi_m (s_X11_sets (G := G) (T := T) (f := f) hw hD hH1 hRe (by omega) hS.1 hS.2.1 hL.2.1 hL.1 hr e1 e3 e4) (fun a w1 g => ?_)
        obtain ⟨rfl, k1, k2, k3⟩ := g
        refine zCi_m (s_X12_sets (G := G) (w := w1) (D := D) (T := T) (r := r) (z := z) (u := u) (v := v) (f := f) (zFr_wf k1 hw) (mHd_f hM k1 (by decide)) hD (by omega) hS.1 (by rw [k1.2.2.2 24 (by decide)]; exact hS.2.2) (mLm_o hL.2.2 ⟨k1.2.2.2 25 (by decide), k1.2.2.2 26 (by decide), k1.2.2.2 27 (by decide)⟩) hL.1 hr (e2 w1 (k1.2.1 168 (by decide) (by decide)) (k1.2.1 169 (by decide) (by decide))) (fun y hy => by rw [k1.2.1 169 (by decide) (by decide)]; exact e5 y hy) e6) (fun a w2 g => ?_)
        obtain ⟨rfl, k4, k5⟩ := g
        have hF : zFr [1, 179, 180, 181, 182, 191, 192, 193] [137, 138, 143, 144, 146, 164] [2, 29] w w2 := zFr_t (zFr_s k1 (by decide)) (zFr_s k4 (by decide))
        have eJ : ∀ i, i < zpr (zsp D) (dJ D) → rJ D (-1) z u v T (zofL f) i = mJ D z u v T (zofL f) i := fun i hi => rJ_code hD hi
        rw [zN_code hD] at k3 ⊢
        refine ⟨by rw [zcnt_c eJ], zQ_told h0 (zFr_wf hF hw) hF.2 (by decide) (qT_v hT ?_ ⟨hF.2.2.1 1 (by decide), hF.2.2.1 166 (by decide)⟩ ⟨?_, hF.2.2.2 0 (by decide)⟩ ⟨hF.2.1 2 (by decide) (by decide), hF.2.1 167 (by decide) (by decide)⟩)⟩
        · rw [k4.2.1 1 (by decide) (by decide), k3, k5]
          congr 1
          exact zbits_c (fun j _ => zalk_c eJ)
        · rw [k4.2.1 1 (by decide) (by decide), k2 3 (by decide)]
  · exact zOe (s_X11_sets_bad r hk0) (s_X12_sets_bad r hk0) rfl h0
