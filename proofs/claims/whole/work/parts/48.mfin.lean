theorem s_X12_figure_y {G : zG} {w : zW} {t m p x : Nat} (hw : zWf w) (ht : t < 4) (hm : m ≤ 80) (hp : p ≤ 80) (hx : x ≤ 9) (hS : w.1 171 t = nI m) (hP : w.1 166 16 = nI p) (h : zfg (mT w t) m p ≤ x) :
    zEi G mX12_figure [.ref 166, .int (nI t), .int (nI x)] w 1 (zsi (zsi w 166 17 (nI (zfg (mT w t) m p))) 166 16 (nI (p + 1))) := by
  have e : zbt (mT w t) m p - 48 = nI (zfg (mT w t) m p) := by
    rcases zbt_n (T := mT w t) (m := m) (p := p) with ⟨e, _⟩ | ⟨h1, h2, h3⟩
    · omega
    · exact h3
  refine zC_of (lo := [_, _, _, _]) kcX12_figure (Nat.le_of_ble_eq_true rfl) rfl (fun X hX hE => ?_)
  refine zk_aload_n hX dX12_figure_0 rfl ?_
  refine zk_aload_n hX dX12_figure_1 rfl ?_
  refine zk_iload_n hX dX12_figure_2 rfl ?_
  refine zk_aload_n hX dX12_figure_3 rfl ?_
  refine zk_getI hX dX12_figure_4 flX12_159 k_166 z_166 ?_
  rw [hP]
  refine zk_V2i hX dX12_figure_7 kcX12_byteAt mlX12_162 viX12_byteAt rfl k_166 z_166 (s_X12_byteAt hw ht hm hp hS) (Nat.le_of_ble_eq_true rfl) rfl ?_
  refine zk_bipush (v := 48) hX dX12_figure_10 (by decide) ?_
  refine zk_isub hX dX12_figure_12 ?_
  refine zk_putI hX dX12_figure_13 plX12_165 (fun h => by cases h) k_166 z_166 rfl rfl ?_
  refine zk_aload_n hX dX12_figure_16 rfl ?_
  refine zk_getI hX dX12_figure_17 flX12_165 k_166 z_166 ?_
  rw [zsi_1, if_pos ⟨rfl, rfl⟩]
  refine zk_iconst (v := 0) hX dX12_figure_20 (by decide) ?_
  refine zk_iload_n hX dX12_figure_21 rfl ?_
  refine zk_S3i hX dX12_figure_22 kcX12_in mlX12_131 smX12_in rfl (s_X12_in _ _ _) (Nat.le_of_ble_eq_true rfl) rfl ?_
  refine zk_istore_n (lo' := [_, _, _, _]) hX dX12_figure_25 (Nat.le_of_ble_eq_true rfl) rfl rfl ?_
  refine zk_aload_n hX dX12_figure_26 rfl ?_
  refine zk_dup hX dX12_figure_27 rfl ?_
  refine zk_getI hX dX12_figure_28 flX12_159 k_166 z_166 ?_
  refine zk_iload_n hX dX12_figure_31 rfl ?_
  refine zk_if_eqB (tgt := 39) hX dX12_figure_32 (by decide) (fun c32 => ?_) (fun c32 => ?_)
  · exact absurd ((zbt_b hx).mpr h) c32
  refine zk_iconst (v := 1) hX dX12_figure_35 (by decide) ?_
  refine zk_goto (tgt := 40) hX dX12_figure_36 (by decide) ?_
  rw [zsi_1, if_neg (by omega), hP]
  refine zk_iadd hX dX12_figure_40 ?_
  rw [nI_1, e]
  refine zk_putI hX dX12_figure_41 plX12_159 (fun h => by cases h) k_166 z_166 rfl rfl ?_
  refine zk_iload_n hX dX12_figure_44 rfl ?_
  refine zk_zret hX hE rfl ⟨rfl, rfl⟩ dX12_figure_45 (by simp [narrow, zb_and1]) ⟨_, rfl, ?_⟩
  refine ⟨?_, rfl⟩
  rw [← e]
  exact zb_t ((zbt_b hx).mpr h)
theorem s_X12_figure_n {G : zG} {w : zW} {t m p x : Nat} (hw : zWf w) (ht : t < 4) (hm : m ≤ 80) (hp : p ≤ 80) (hx : x ≤ 9) (hS : w.1 171 t = nI m) (hP : w.1 166 16 = nI p) (h : ¬ zfg (mT w t) m p ≤ x) :
    zEi G mX12_figure [.ref 166, .int (nI t), .int (nI x)] w 0 (zsi (zsi w 166 17 (zbt (mT w t) m p - 48)) 166 16 (nI p)) := by
  refine zC_of (lo := [_, _, _, _]) kcX12_figure (Nat.le_of_ble_eq_true rfl) rfl (fun X hX hE => ?_)
  refine zk_aload_n hX dX12_figure_0 rfl ?_
  refine zk_aload_n hX dX12_figure_1 rfl ?_
  refine zk_iload_n hX dX12_figure_2 rfl ?_
  refine zk_aload_n hX dX12_figure_3 rfl ?_
  refine zk_getI hX dX12_figure_4 flX12_159 k_166 z_166 ?_
  rw [hP]
  refine zk_V2i hX dX12_figure_7 kcX12_byteAt mlX12_162 viX12_byteAt rfl k_166 z_166 (s_X12_byteAt hw ht hm hp hS) (Nat.le_of_ble_eq_true rfl) rfl ?_
  refine zk_bipush (v := 48) hX dX12_figure_10 (by decide) ?_
  refine zk_isub hX dX12_figure_12 ?_
  refine zk_putI hX dX12_figure_13 plX12_165 (fun h => by cases h) k_166 z_166 rfl rfl ?_
  refine zk_aload_n hX dX12_figure_16 rfl ?_
  refine zk_getI hX dX12_figure_17 flX12_165 k_166 z_166 ?_
  rw [zsi_1, if_pos ⟨rfl, rfl⟩]
  refine zk_iconst (v := 0) hX dX12_figure_20 (by decide) ?_
  refine zk_iload_n hX dX12_figure_21 rfl ?_
  refine zk_S3i hX dX12_figure_22 kcX12_in mlX12_131 smX12_in rfl (s_X12_in _ _ _) (Nat.le_of_ble_eq_true rfl) rfl ?_
  refine zk_istore_n (lo' := [_, _, _, _]) hX dX12_figure_25 (Nat.le_of_ble_eq_true rfl) rfl rfl ?_
  refine zk_aload_n hX dX12_figure_26 rfl ?_
  refine zk_dup hX dX12_figure_27 rfl ?_
  refine zk_getI hX dX12_figure_28 flX12_159 k_166 z_166 ?_
  refine zk_iload_n hX dX12_figure_31 rfl ?_
  refine zk_if_eqB (tgt := 39) hX dX12_figure_32 (by decide) (fun c32 => ?_) (fun c32 => ?_)
  rotate_left
  · exact absurd ((zbt_b hx).mp c32) h
  refine zk_iconst (v := 0) hX dX12_figure_39 (by decide) ?_
  rw [zsi_1, if_neg (by omega), hP]
  refine zk_iadd hX dX12_figure_40 ?_
  rw [Int32.add_zero]
  refine zk_putI hX dX12_figure_41 plX12_159 (fun h => by cases h) k_166 z_166 rfl rfl ?_
  refine zk_iload_n hX dX12_figure_44 rfl ?_
  refine zk_zret hX hE rfl ⟨rfl, rfl⟩ dX12_figure_45 (by simp [narrow, zb_and1]) ⟨_, rfl, ?_⟩
  exact ⟨zb_f (fun q => h ((zbt_b hx).mp q)), rfl⟩
theorem rdH_j {w w' : zW} {k b t : Nat} {E : zD} (hD : zDok E) (h : rdH w k E) (h0 : 0 < dF E) (e1 : w'.1 166 18 = w.1 166 18) (e2 : w'.1 166 19 = w.1 166 19) (e3 : w'.1 166 20 = nI (dJ E + 1)) (e4 : w'.1 176 = w.1 176)
    (e5 : ∀ c, w'.1 177 c = if c = 4 * (dF E - 1) + 3 then nI (dL E (dF E - 1) + 1) else w.1 177 c) (e6 : ∀ c, w'.1 178 c = if c = 3 * dJ E + 2 then nI t else if c = 3 * dJ E + 1 then nI b else if c = 3 * dJ E then nI (dF E - 1) else w.1 178 c) : rdH w' k (dJnt E b t) := by
  refine ⟨⟨e1.trans h.1.1, e2.trans h.1.2.1, e3⟩, fun a ha => by rw [e4]; exact h.2.1 a ha, fun f hf => ?_, fun j hj => ?_⟩
  · have q := h.2.2.1 f hf
    refine ⟨?_, ?_, ?_, ?_⟩
    · rw [e5, if_neg (by omega)]
      exact q.1
    · rw [e5, if_neg (by omega)]
      exact q.2.1
    · rw [e5, if_neg (by omega)]
      exact q.2.2.1
    · rw [e5]
      show _ = nI (nup (dL E) (dF E - 1) (dL E (dF E - 1) + 1) f)
      by_cases g : f = dF E - 1
      · rw [if_pos (by omega), g, nup_s]
      · rw [if_neg (by omega), nup_n g]
        exact q.2.2.2
  · have hj : j < dJ E + 1 := hj
    show _ = nI (nup (dH E) (dJ E) (dF E - 1) j) ∧ _ = nI (nup (dB E) (dJ E) b j) ∧ _ = nI (nup (dA E) (dJ E) t j)
    by_cases g : j = dJ E
    · rw [g, nup_s, nup_s, nup_s, e6, if_neg (by omega), if_neg (by omega), if_pos rfl, e6, if_neg (by omega), if_pos rfl, e6, if_pos rfl]
      exact ⟨rfl, rfl, rfl⟩
    · have q := h.2.2.2 j (by omega)
      rw [nup_n g, nup_n g, nup_n g, e6, if_neg (by omega), if_neg (by omega), if_neg (by omega), e6, if_neg (by omega), if_neg (by omega), if_neg (by omega), e6, if_neg (by omega), if_neg (by omega), if_neg (by omega)]
      exact q
theorem rdH_n {w w' : zW} {k s : Nat} {E : zD} (h : rdH w k E) (e1 : w'.1 166 18 = w.1 166 18) (e2 : w'.1 166 19 = w.1 166 19) (e3 : w'.1 166 20 = w.1 166 20) (e4 : w'.1 176 = w.1 176)
    (e5 : ∀ c, w'.1 177 c = if c = 4 * dF E + 3 then nI 0 else if c = 4 * dF E + 2 then nI (dJ E) else if c = 4 * dF E + 1 then nI s else if c = 4 * dF E then nI (dW E - 1) else w.1 177 c) (e6 : w'.1 178 = w.1 178) : rdH w' k (dFin E s) := by
  refine ⟨⟨e1.trans h.1.1, e2.trans h.1.2.1, e3.trans h.1.2.2⟩, fun a ha => by rw [e4]; exact h.2.1 a ha, fun f hf => ?_, fun j hj => by rw [e6]; exact h.2.2.2 j hj⟩
  have hf : f < dF E + 1 := hf
  show _ = nI (nup (dO E) (dF E) (dW E - 1) f) ∧ _ = nI (nup (dS E) (dF E) s f) ∧ _ = nI (nup (dI E) (dF E) (dJ E) f) ∧ _ = nI (nup (dL E) (dF E) 0 f)
  by_cases g : f = dF E
  · rw [g, nup_s, nup_s, nup_s, nup_s, e5, if_neg (by omega), if_neg (by omega), if_neg (by omega), if_pos rfl, e5, if_neg (by omega), if_neg (by omega), if_pos rfl, e5, if_neg (by omega), if_pos rfl, e5, if_pos rfl]
    exact ⟨rfl, rfl, rfl, rfl⟩
  · have q := h.2.2.1 f (by omega)
    rw [nup_n g, nup_n g, nup_n g, nup_n g, e5, if_neg (by omega), if_neg (by omega), if_neg (by omega), if_neg (by omega), e5, if_neg (by omega), if_neg (by omega), if_neg (by omega), if_neg (by omega), e5, if_neg (by omega), if_neg (by omega), if_neg (by omega), if_neg (by omega), e5, if_neg (by omega), if_neg (by omega), if_neg (by omega), if_neg (by omega)]
    exact q
theorem rdH_k {w w' : zW} {k k' : Nat} {D : zD} (h : rdH w k D) (e : w'.1 176 = w.1 176 ∧ w'.1 177 = w.1 177 ∧ w'.1 178 = w.1 178) (e2 : w'.1 166 18 = w.1 166 18 ∧ w'.1 166 19 = nI k' ∧ w'.1 166 20 = w.1 166 20) : rdH w' k' D := by
  unfold rdH
  rw [e.1, e.2.1, e.2.2, e2.1, e2.2.1, e2.2.2]
  exact ⟨⟨h.1.1, rfl, h.1.2.2⟩, h.2⟩
theorem zsi_c {w : zW} {k j a : Nat} {x : Int32} (h : a ≠ k) : (zsi w k j x).1 a = w.1 a := zsi_o h
theorem s_X12_readsFinger {G : zG} {w : zW} {t m p : Nat} {D : zD} (hw : zWf w) (ht : t < 4) (hm : m ≤ 80) (hp : p < m) (hD : zDok D) (hR : mRd w t m p (dF D) D) :
    zCi G mX12_readsFinger [.ref 166, .int (nI t)] w (fun r w' => r = zb ((rFin (mT w t) m p D).1 = true) ∧ zFr [176, 177, 178] [] [16, 17, 18, 19, 20] w w' ∧ w'.1 166 16 = nI (rFin (mT w t) m p D).2.1 ∧ ((rFin (mT w t) m p D).1 = true → mRd w' t m (rFin (mT w t) m p D).2.1 (dF (rFin (mT w t) m p D).2.2) (rFin (mT w t) m p D).2.2)) := by
  have hW2 := hD.1.1
  have hF6 := hD.1.2.1
  refine zC_of (lo := [_, _, _, _, _]) kcX12_readsFinger (Nat.le_of_ble_eq_true rfl) rfl (fun X hX hE => ?_)
  have loop : ∀ n i q E w1 v, i + n = 3 → zFr [176, 177, 178] [] [16, 17, 18, 19, 20] w w1 → mRd w1 t m q (dF E - 1) E → zDok E → 0 < dF E → dL E (dF E - 1) = i → q ≤ m → rFin (mT w t) m p D = rJs (mT w t) m n q E → zk0 G X mX12_readsFinger 94 [.ref 166, .int (nI t), .int (nI (4 * (dF E - 1))), .int (nI i), v] [] w1 := by
    intro n
    induction n with
    | zero =>
      intro i q E w1 v hi hF hR1 hE1 hF1 hL1 hq he
      rw [he] at hE
      have h6 := hE1.1.2.1
      refine zk_iload_n hX dX12_readsFinger_94 rfl ?_
      refine zk_iconst (v := 3) hX dX12_readsFinger_95 (by decide) ?_
      refine zk_icmp_ge (tgt := 219) hX dX12_readsFinger_96 (by decide) (fun c96 => ?_) (fun c96 => ?_)
      rotate_left
      · exact absurd (nI_le (a := 3) (by omega) (by omega)) c96
      refine zk_aload_n hX dX12_readsFinger_219 rfl ?_
      refine zk_dup hX dX12_readsFinger_220 rfl ?_
      refine zk_getI hX dX12_readsFinger_221 flX12_174 k_166 z_166 ?_
      rw [hR1.2.2.1.2.1]
      refine zk_iconst (v := 1) hX dX12_readsFinger_224 (by decide) ?_
      refine zk_iadd hX dX12_readsFinger_225 ?_
      rw [nI_1]
      refine zk_putI hX dX12_readsFinger_226 plX12_174 (fun h => by cases h) k_166 z_166 rfl rfl ?_
      refine zk_iconst (v := 1) hX dX12_readsFinger_229 (by decide) ?_
      refine zk_zret hX hE rfl ⟨rfl, rfl⟩ dX12_readsFinger_230 rfl ⟨_, rfl, ?_⟩
      refine ⟨(zb_t rfl).symm, zFr_t hF (zFr_m (by simp)), ?_, fun _ => ⟨?_, ?_, ?_⟩⟩
      · rw [zsi_1, if_neg (by omega)]
        exact hR1.2.1
      · rw [zsi_o (by decide)]
        exact hR1.1
      · rw [zsi_1, if_neg (by omega)]
        exact hR1.2.1
      · have e : dF E - 1 + 1 = dF E := by omega
        refine rdH_k hR1.2.2 ⟨zsi_c (by decide), zsi_c (by decide), zsi_c (by decide)⟩ ⟨?_, ?_, ?_⟩
        · rw [zsi_1, if_neg (by omega)]
        · rw [zsi_1, if_pos ⟨rfl, rfl⟩, e]
          rfl
        · rw [zsi_1, if_neg (by omega)]
    | succ n ih =>
      intro i q E w1 v hi hF hR1 hE1 hF1 hL1 hq he
      have hw1 := zFr_wf hF hw
      have h6 := hE1.1.2.1
      have hj6 := hE1.1.2.2
      have eT : mT w1 t = mT w t := mT_f hF (by decide)
      have cf := s_X12_isFigure (G := G) hw1 ht hm (show q ≤ 80 by omega) hR1.1 hR1.2.1
      rw [eT] at cf
      by_cases h1 : zfg (mT w t) m q = 99
      · have e2 : rJs (mT w t) m (n + 1) q E = (true, q, E) := by
          show (if zfg (mT w t) m q = 99 then _ else _) = _
          rw [if_pos h1]
        rw [he, e2] at hE
        refine zk_iload_n hX dX12_readsFinger_94 rfl ?_
        refine zk_iconst (v := 3) hX dX12_readsFinger_95 (by decide) ?_
        refine zk_icmp_ge (tgt := 219) hX dX12_readsFinger_96 (by decide) (fun c96 => ?_) (fun c96 => ?_)
        · exact absurd c96 (nI_ge (b := 3) (by omega) (by decide))
        refine zk_aload_n hX dX12_readsFinger_99 rfl ?_
        refine zk_iload_n hX dX12_readsFinger_100 rfl ?_
        refine zk_V1i hX dX12_readsFinger_101 kcX12_isFigure mlX12_171 viX12_isFigure rfl k_166 z_166 cf (Nat.le_of_ble_eq_true rfl) rfl ?_
        refine zk_if_eqB (tgt := 219) hX dX12_readsFinger_104 (by decide) (fun c104 => ?_) (fun c104 => ?_)
        rotate_left
        · exact absurd h1 c104
        refine zk_aload_n hX dX12_readsFinger_219 rfl ?_
        refine zk_dup hX dX12_readsFinger_220 rfl ?_
        refine zk_getI hX dX12_readsFinger_221 flX12_174 k_166 z_166 ?_
        rw [hR1.2.2.1.2.1]
        refine zk_iconst (v := 1) hX dX12_readsFinger_224 (by decide) ?_
        refine zk_iadd hX dX12_readsFinger_225 ?_
        rw [nI_1]
        refine zk_putI hX dX12_readsFinger_226 plX12_174 (fun h => by cases h) k_166 z_166 rfl rfl ?_
        refine zk_iconst (v := 1) hX dX12_readsFinger_229 (by decide) ?_
        refine zk_zret hX hE rfl ⟨rfl, rfl⟩ dX12_readsFinger_230 rfl ⟨_, rfl, ?_⟩
        have e : dF E - 1 + 1 = dF E := by omega
        refine ⟨(zb_t rfl).symm, zFr_t hF (zFr_m (by simp)), ?_, fun _ => ⟨?_, ?_, ?_⟩⟩
        · rw [zsi_1, if_neg (by omega)]
          exact hR1.2.1
        · rw [zsi_o (by decide)]
          exact hR1.1
        · rw [zsi_1, if_neg (by omega)]
          exact hR1.2.1
        · refine rdH_k hR1.2.2 ⟨zsi_c (by decide), zsi_c (by decide), zsi_c (by decide)⟩ ⟨?_, ?_, ?_⟩
          · rw [zsi_1, if_neg (by omega)]
          · rw [zsi_1, if_pos ⟨rfl, rfl⟩, e]
          · rw [zsi_1, if_neg (by omega)]
      · have hqm := zfg_p h1
        by_cases h2 : dJ E = 6
        · have e2 : rJs (mT w t) m (n + 1) q E = (false, q, E) := by
            show (if zfg (mT w t) m q = 99 then _ else _) = _
            rw [if_neg h1, if_pos (Or.inl h2)]
          rw [he, e2] at hE
          refine zk_iload_n hX dX12_readsFinger_94 rfl ?_
          refine zk_iconst (v := 3) hX dX12_readsFinger_95 (by decide) ?_
          refine zk_icmp_ge (tgt := 219) hX dX12_readsFinger_96 (by decide) (fun c96 => ?_) (fun c96 => ?_)
          · exact absurd c96 (nI_ge (b := 3) (by omega) (by decide))
          refine zk_aload_n hX dX12_readsFinger_99 rfl ?_
          refine zk_iload_n hX dX12_readsFinger_100 rfl ?_
          refine zk_V1i hX dX12_readsFinger_101 kcX12_isFigure mlX12_171 viX12_isFigure rfl k_166 z_166 cf (Nat.le_of_ble_eq_true rfl) rfl ?_
          refine zk_if_eqB (tgt := 219) hX dX12_readsFinger_104 (by decide) (fun c104 => ?_) (fun c104 => ?_)
          · exact absurd h1 c104
          refine zk_aload_n hX dX12_readsFinger_107 rfl ?_
          refine zk_getI hX dX12_readsFinger_108 flX12_181 k_166 z_166 ?_
          rw [hR1.2.2.1.2.2, h2]
          refine zk_bipush (v := 6) hX dX12_readsFinger_111 (by decide) ?_
          refine zk_icmp_eq (tgt := 125) hX dX12_readsFinger_113 (by decide) (fun c113 => ?_) (fun c113 => ?_)
          rotate_left
          · exact absurd rfl c113
          refine zk_iconst (v := 0) hX dX12_readsFinger_125 (by decide) ?_
          refine zk_zret hX hE rfl ⟨rfl, rfl⟩ dX12_readsFinger_126 rfl ⟨_, rfl, ?_⟩
          exact ⟨(zb_f (fun q => by cases q)).symm, hF, hR1.2.1, fun q => by cases q⟩
        · by_cases h3 : 2 < zfg (mT w t) m q
          · have e2 : rJs (mT w t) m (n + 1) q E = (false, q, E) := by
              show (if zfg (mT w t) m q = 99 then _ else _) = _
              rw [if_neg h1, if_pos (Or.inr h3)]
            rw [he, e2] at hE
            have cg := s_X12_figure_n (G := G) hw1 ht hm (show q ≤ 80 by omega) (x := 2) (by decide) hR1.1 hR1.2.1 (by rw [eT]; omega)
            refine zk_iload_n hX dX12_readsFinger_94 rfl ?_
            refine zk_iconst (v := 3) hX dX12_readsFinger_95 (by decide) ?_
            refine zk_icmp_ge (tgt := 219) hX dX12_readsFinger_96 (by decide) (fun c96 => ?_) (fun c96 => ?_)
            · exact absurd c96 (nI_ge (b := 3) (by omega) (by decide))
            refine zk_aload_n hX dX12_readsFinger_99 rfl ?_
            refine zk_iload_n hX dX12_readsFinger_100 rfl ?_
            refine zk_V1i hX dX12_readsFinger_101 kcX12_isFigure mlX12_171 viX12_isFigure rfl k_166 z_166 cf (Nat.le_of_ble_eq_true rfl) rfl ?_
            refine zk_if_eqB (tgt := 219) hX dX12_readsFinger_104 (by decide) (fun c104 => ?_) (fun c104 => ?_)
            · exact absurd h1 c104
            refine zk_aload_n hX dX12_readsFinger_107 rfl ?_
            refine zk_getI hX dX12_readsFinger_108 flX12_181 k_166 z_166 ?_
            rw [hR1.2.2.1.2.2]
            refine zk_bipush (v := 6) hX dX12_readsFinger_111 (by decide) ?_
            refine zk_icmp_eq (tgt := 125) hX dX12_readsFinger_113 (by decide) (fun c113 => ?_) (fun c113 => ?_)
            · exact absurd (nI_inj (a := dJ E) (b := 6) (by omega) (by decide) c113) h2
            refine zk_aload_n hX dX12_readsFinger_116 rfl ?_
            refine zk_iload_n hX dX12_readsFinger_117 rfl ?_
            refine zk_iconst (v := 2) hX dX12_readsFinger_118 (by decide) ?_
            refine zk_V2i hX dX12_readsFinger_119 kcX12_figure mlX12_177 viX12_figure rfl k_166 z_166 cg (Nat.le_of_ble_eq_true rfl) rfl ?_
            refine zk_if_ne (tgt := 127) hX dX12_readsFinger_122 (by decide) (fun c122 => ?_) (fun c122 => ?_)
            · exact absurd c122 (by decide)
            refine zk_iconst (v := 0) hX dX12_readsFinger_125 (by decide) ?_
            refine zk_zret hX hE rfl ⟨rfl, rfl⟩ dX12_readsFinger_126 rfl ⟨_, rfl, ?_⟩
            exact ⟨(zb_f (fun q => by cases q)).symm, zFr_t hF (zFr_t (zFr_m (by simp)) (zFr_m (by simp))), by rw [zsi_1, if_pos ⟨rfl, rfl⟩], fun q => by cases q⟩
          · have cg := s_X12_figure_y (G := G) hw1 ht hm (show q ≤ 80 by omega) (x := 2) (by decide) hR1.1 hR1.2.1 (by rw [eT]; omega)
            rw [eT] at cg
            generalize ewa : zsi (zsi w1 166 17 (nI (zfg (mT w t) m q))) 166 16 (nI (q + 1)) = wa at cg
            have hFa : zFr [] [] [16, 17] w1 wa := by
              rw [← ewa]
              exact zFr_t (zFr_m (by simp)) (zFr_m (by simp))
            have ea6 : wa.1 166 16 = nI (q + 1) := by rw [← ewa, zsi_1, if_pos ⟨rfl, rfl⟩]
            have ea7 : wa.1 166 17 = nI (zfg (mT w t) m q) := by rw [← ewa, zsi_1, if_neg (by omega), zsi_1, if_pos ⟨rfl, rfl⟩]
            have hRa := mRd_f hR1 hFa ea6
            have hwa := zFr_wf hFa hw1
            have eTa : mT wa t = mT w t := (mT_f hFa (by decide)).trans eT
            by_cases h4 : 2 < zfg (mT w t) m (q + 1)
            · have e2 : rJs (mT w t) m (n + 1) q E = (false, q + 1, E) := by
                show (if zfg (mT w t) m q = 99 then _ else _) = _
                rw [if_neg h1, if_neg (by omega), if_pos h4]
              rw [he, e2] at hE
              have cj := s_X12_figure_n (G := G) hwa ht hm (show q + 1 ≤ 80 by omega) (x := 2) (by decide) hRa.1 hRa.2.1 (by rw [eTa]; omega)
              refine zk_iload_n hX dX12_readsFinger_94 rfl ?_
              refine zk_iconst (v := 3) hX dX12_readsFinger_95 (by decide) ?_
              refine zk_icmp_ge (tgt := 219) hX dX12_readsFinger_96 (by decide) (fun c96 => ?_) (fun c96 => ?_)
              · exact absurd c96 (nI_ge (b := 3) (by omega) (by decide))
              refine zk_aload_n hX dX12_readsFinger_99 rfl ?_
              refine zk_iload_n hX dX12_readsFinger_100 rfl ?_
              refine zk_V1i hX dX12_readsFinger_101 kcX12_isFigure mlX12_171 viX12_isFigure rfl k_166 z_166 cf (Nat.le_of_ble_eq_true rfl) rfl ?_
              refine zk_if_eqB (tgt := 219) hX dX12_readsFinger_104 (by decide) (fun c104 => ?_) (fun c104 => ?_)
              · exact absurd h1 c104
              refine zk_aload_n hX dX12_readsFinger_107 rfl ?_
              refine zk_getI hX dX12_readsFinger_108 flX12_181 k_166 z_166 ?_
              rw [hR1.2.2.1.2.2]
              refine zk_bipush (v := 6) hX dX12_readsFinger_111 (by decide) ?_
              refine zk_icmp_eq (tgt := 125) hX dX12_readsFinger_113 (by decide) (fun c113 => ?_) (fun c113 => ?_)
              · exact absurd (nI_inj (a := dJ E) (b := 6) (by omega) (by decide) c113) h2
              refine zk_aload_n hX dX12_readsFinger_116 rfl ?_
              refine zk_iload_n hX dX12_readsFinger_117 rfl ?_
              refine zk_iconst (v := 2) hX dX12_readsFinger_118 (by decide) ?_
              refine zk_V2i hX dX12_readsFinger_119 kcX12_figure mlX12_177 viX12_figure rfl k_166 z_166 cg (Nat.le_of_ble_eq_true rfl) rfl ?_
              refine zk_if_ne (tgt := 127) hX dX12_readsFinger_122 (by decide) (fun c122 => ?_) (fun c122 => ?_)
              rotate_left
              · exact absurd c122 (by decide)
              refine zk_aload_n hX dX12_readsFinger_127 rfl ?_
              refine zk_getI hX dX12_readsFinger_128 flX12_165 k_166 z_166 ?_
              refine zk_istore (lo' := [_, _, _, _, _]) hX dX12_readsFinger_131 (Nat.le_of_ble_eq_true rfl) rfl rfl ?_
              refine zk_aload_n hX dX12_readsFinger_133 rfl ?_
              refine zk_iload_n hX dX12_readsFinger_134 rfl ?_
              refine zk_iconst (v := 2) hX dX12_readsFinger_135 (by decide) ?_
              refine zk_V2i hX dX12_readsFinger_136 kcX12_figure mlX12_177 viX12_figure rfl k_166 z_166 cj (Nat.le_of_ble_eq_true rfl) rfl ?_
              refine zk_if_ne (tgt := 144) hX dX12_readsFinger_139 (by decide) (fun c139 => ?_) (fun c139 => ?_)
              · exact absurd c139 (by decide)
              refine zk_iconst (v := 0) hX dX12_readsFinger_142 (by decide) ?_
              refine zk_zret hX hE rfl ⟨rfl, rfl⟩ dX12_readsFinger_143 rfl ⟨_, rfl, ?_⟩
              exact ⟨(zb_f (fun q => by cases q)).symm, zFr_t (zFr_t hF (zFr_s hFa (by decide))) (zFr_t (zFr_m (by simp)) (zFr_m (by simp))), by rw [zsi_1, if_pos ⟨rfl, rfl⟩], fun q => by cases q⟩
            · have cj := s_X12_figure_y (G := G) hwa ht hm (show q + 1 ≤ 80 by omega) (x := 2) (by decide) hRa.1 hRa.2.1 (by rw [eTa]; omega)
              rw [eTa] at cj
              generalize ewb : zsi (zsi wa 166 17 (nI (zfg (mT w t) m (q + 1)))) 166 16 (nI (q + 1 + 1)) = wb at cj
              have hFb : zFr [] [] [16, 17] wa wb := by
                rw [← ewb]
                exact zFr_t (zFr_m (by simp)) (zFr_m (by simp))
              have eb6 : wb.1 166 16 = nI (q + 2) := by rw [← ewb, zsi_1, if_pos ⟨rfl, rfl⟩]
              have eb7 : wb.1 166 17 = nI (zfg (mT w t) m (q + 1)) := by rw [← ewb, zsi_1, if_neg (by omega), zsi_1, if_pos ⟨rfl, rfl⟩]
              have hRb := mRd_f hRa hFb eb6
              have hwb := zFr_wf hFb hwa
              have e2 : rJs (mT w t) m (n + 1) q E = rJs (mT w t) m n (q + 2) (dJnt E (zfg (mT w t) m q) (zfg (mT w t) m (q + 1))) := by
                show (if zfg (mT w t) m q = 99 then _ else _) = _
                rw [if_neg h1, if_neg (by omega), if_neg h4]
              have hqm2 := zfg_p (T := mT w t) (m := m) (p := q + 1) (by omega)
              have hj : dJ E < 6 := by omega
              refine zk_iload_n hX dX12_readsFinger_94 rfl ?_
              refine zk_iconst (v := 3) hX dX12_readsFinger_95 (by decide) ?_
              refine zk_icmp_ge (tgt := 219) hX dX12_readsFinger_96 (by decide) (fun c96 => ?_) (fun c96 => ?_)
              · exact absurd c96 (nI_ge (b := 3) (by omega) (by decide))
              refine zk_aload_n hX dX12_readsFinger_99 rfl ?_
              refine zk_iload_n hX dX12_readsFinger_100 rfl ?_
              refine zk_V1i hX dX12_readsFinger_101 kcX12_isFigure mlX12_171 viX12_isFigure rfl k_166 z_166 cf (Nat.le_of_ble_eq_true rfl) rfl ?_
              refine zk_if_eqB (tgt := 219) hX dX12_readsFinger_104 (by decide) (fun c104 => ?_) (fun c104 => ?_)
              · exact absurd h1 c104
              refine zk_aload_n hX dX12_readsFinger_107 rfl ?_
              refine zk_getI hX dX12_readsFinger_108 flX12_181 k_166 z_166 ?_
              rw [hR1.2.2.1.2.2]
              refine zk_bipush (v := 6) hX dX12_readsFinger_111 (by decide) ?_
              refine zk_icmp_eq (tgt := 125) hX dX12_readsFinger_113 (by decide) (fun c113 => ?_) (fun c113 => ?_)
              · exact absurd (nI_inj (a := dJ E) (b := 6) (by omega) (by decide) c113) h2
              refine zk_aload_n hX dX12_readsFinger_116 rfl ?_
              refine zk_iload_n hX dX12_readsFinger_117 rfl ?_
              refine zk_iconst (v := 2) hX dX12_readsFinger_118 (by decide) ?_
              refine zk_V2i hX dX12_readsFinger_119 kcX12_figure mlX12_177 viX12_figure rfl k_166 z_166 cg (Nat.le_of_ble_eq_true rfl) rfl ?_
              refine zk_if_ne (tgt := 127) hX dX12_readsFinger_122 (by decide) (fun c122 => ?_) (fun c122 => ?_)
              rotate_left
              · exact absurd c122 (by decide)
              refine zk_aload_n hX dX12_readsFinger_127 rfl ?_
              refine zk_getI hX dX12_readsFinger_128 flX12_165 k_166 z_166 ?_
              rw [ea7]
              refine zk_istore (lo' := [_, _, _, _, _]) hX dX12_readsFinger_131 (Nat.le_of_ble_eq_true rfl) rfl rfl ?_
              refine zk_aload_n hX dX12_readsFinger_133 rfl ?_
              refine zk_iload_n hX dX12_readsFinger_134 rfl ?_
              refine zk_iconst (v := 2) hX dX12_readsFinger_135 (by decide) ?_
              refine zk_V2i hX dX12_readsFinger_136 kcX12_figure mlX12_177 viX12_figure rfl k_166 z_166 cj (Nat.le_of_ble_eq_true rfl) rfl ?_
              refine zk_if_ne (tgt := 144) hX dX12_readsFinger_139 (by decide) (fun c139 => ?_) (fun c139 => ?_)
              rotate_left
              · exact absurd c139 (by decide)
              refine zk_aload_n hX dX12_readsFinger_144 rfl ?_
              refine zk_getR hX dX12_readsFinger_145 flX12_44 k_166 z_166 (hwb _ _ (by decide) |>.trans r_166_23) ?_
              refine zk_iconst (v := 3) hX dX12_readsFinger_148 (by decide) ?_
              refine zk_aload_n hX dX12_readsFinger_149 rfl ?_
              refine zk_getI hX dX12_readsFinger_150 flX12_181 k_166 z_166 ?_
              rw [hRb.2.2.1.2.2]
              refine zk_imul hX dX12_readsFinger_153 ?_
              rw [show (3 : Int32) = nI 3 from rfl, nI_mul]
              refine zk_aload_n hX dX12_readsFinger_154 rfl ?_
              refine zk_getI hX dX12_readsFinger_155 flX12_174 k_166 z_166 ?_
              rw [hRb.2.2.1.2.1]
              refine zk_iastE hX dX12_readsFinger_158 rfl k_178 z_178 (by first | assumption | omega) rfl ?_
              refine zk_aload_n hX dX12_readsFinger_159 rfl ?_
              refine zk_getR hX dX12_readsFinger_160 flX12_44 k_166 z_166 (hwb _ _ (by decide) |>.trans r_166_23) ?_
              refine zk_iconst (v := 3) hX dX12_readsFinger_163 (by decide) ?_
              refine zk_aload_n hX dX12_readsFinger_164 rfl ?_
              refine zk_getI hX dX12_readsFinger_165 flX12_181 k_166 z_166 ?_
              rw [zsi_o (by decide), hRb.2.2.1.2.2]
              refine zk_imul hX dX12_readsFinger_168 ?_
              rw [show (3 : Int32) = nI 3 from rfl, nI_mul]
              refine zk_iconst (v := 1) hX dX12_readsFinger_169 (by decide) ?_
              refine zk_iadd hX dX12_readsFinger_170 ?_
              rw [nI_1]
              refine zk_iload hX dX12_readsFinger_171 rfl ?_
              refine zk_iastE hX dX12_readsFinger_173 rfl k_178 z_178 (by first | assumption | omega) rfl ?_
              refine zk_aload_n hX dX12_readsFinger_174 rfl ?_
              refine zk_getR hX dX12_readsFinger_175 flX12_44 k_166 z_166 (hwb _ _ (by decide) |>.trans r_166_23) ?_
              refine zk_iconst (v := 3) hX dX12_readsFinger_178 (by decide) ?_
              refine zk_aload_n hX dX12_readsFinger_179 rfl ?_
              refine zk_getI hX dX12_readsFinger_180 flX12_181 k_166 z_166 ?_
              rw [zsi_o (by decide), zsi_o (by decide), hRb.2.2.1.2.2]
              refine zk_imul hX dX12_readsFinger_183 ?_
              rw [show (3 : Int32) = nI 3 from rfl, nI_mul]
              refine zk_iconst (v := 2) hX dX12_readsFinger_184 (by decide) ?_
              refine zk_iadd hX dX12_readsFinger_185 ?_
              rw [show (2 : Int32) = nI 2 from rfl, nI_add]
              refine zk_aload_n hX dX12_readsFinger_186 rfl ?_
              refine zk_getI hX dX12_readsFinger_187 flX12_165 k_166 z_166 ?_
              rw [zsi_o (by decide), zsi_o (by decide), eb7]
              refine zk_iastE hX dX12_readsFinger_190 rfl k_178 z_178 (by first | assumption | omega) rfl ?_
              refine zk_aload_n hX dX12_readsFinger_191 rfl ?_
              refine zk_dup hX dX12_readsFinger_192 rfl ?_
              refine zk_getI hX dX12_readsFinger_193 flX12_181 k_166 z_166 ?_
              rw [zsi_o (by decide), zsi_o (by decide), zsi_o (by decide), hRb.2.2.1.2.2]
              refine zk_iconst (v := 1) hX dX12_readsFinger_196 (by decide) ?_
              refine zk_iadd hX dX12_readsFinger_197 ?_
              rw [nI_1]
              refine zk_putI hX dX12_readsFinger_198 plX12_181 (fun h => by cases h) k_166 z_166 rfl rfl ?_
              refine zk_aload_n hX dX12_readsFinger_201 rfl ?_
              refine zk_getR hX dX12_readsFinger_202 flX12_41 k_166 z_166 (hwb _ _ (by decide) |>.trans r_166_22) ?_
              refine zk_iload_n hX dX12_readsFinger_205 rfl ?_
              refine zk_iconst (v := 3) hX dX12_readsFinger_206 (by decide) ?_
              refine zk_iadd hX dX12_readsFinger_207 ?_
              rw [show (3 : Int32) = nI 3 from rfl, nI_add]
              refine zk_dup2 hX dX12_readsFinger_208 rfl rfl ?_
              refine zk_ialdE hX dX12_readsFinger_209 rfl k_177 z_177 (by first | assumption | omega) rfl ?_
              rw [zsi_o (by decide), zsi_o (by decide), zsi_o (by decide), zsi_o (by decide), (hRb.2.2.2.2.1 (dF E - 1) (by omega)).2.2.2]
              refine zk_iconst (v := 1) hX dX12_readsFinger_210 (by decide) ?_
              refine zk_iadd hX dX12_readsFinger_211 ?_
              rw [nI_1]
              refine zk_iastE hX dX12_readsFinger_212 rfl k_177 z_177 (by first | assumption | omega) rfl ?_
              refine zk_iinc (lo' := [_, _, _, _, _]) hX dX12_readsFinger_213 rfl (by first | exact zinc _ | exact rfl) (Nat.le_of_ble_eq_true rfl) rfl rfl ?_
              refine zk_goto (tgt := 94) hX dX12_readsFinger_216 (by decide) ?_
              have e4 : dL (dJnt E (zfg (mT w t) m q) (zfg (mT w t) m (q + 1))) (dF E - 1) = dL E (dF E - 1) + 1 := nup_s
              refine ih (i + 1) (q + 2) (dJnt E (zfg (mT w t) m q) (zfg (mT w t) m (q + 1))) _ _ (by omega) ?_ ⟨?_, ?_, ?_⟩ (dJnt_ok hE1 hF1 (by omega) (by omega) (by omega) (by omega)) hF1 (by show dL (dJnt E (zfg (mT w t) m q) (zfg (mT w t) m (q + 1))) (dF E - 1) = i + 1; rw [e4]; omega) (by omega) (he.trans e2)
              · exact zFr_t (zFr_t (zFr_t hF (zFr_s hFa (by decide))) (zFr_s hFb (by decide))) (zFr_t (zFr_t (zFr_t (zFr_t (zFr_i (by decide) (by decide)) (zFr_i (by decide) (by decide))) (zFr_i (by decide) (by decide))) (zFr_m (by decide))) (zFr_i (by decide) (by decide)))
              · rw [zsi_o (by decide), zsi_o (by decide), zsi_o (by decide), zsi_o (by decide), zsi_o (by decide)]
                exact hRb.1
              · rw [zsi_o (by decide), zsi_1, if_neg (by omega), zsi_o (by decide), zsi_o (by decide), zsi_o (by decide)]
                exact eb6
              · refine rdH_j hE1 hRb.2.2 hF1 ?_ ?_ ?_ ?_ ?_ ?_
                · rw [zsi_o (by decide), zsi_1, if_neg (by omega), zsi_o (by decide), zsi_o (by decide), zsi_o (by decide)]
                · rw [zsi_o (by decide), zsi_1, if_neg (by omega), zsi_o (by decide), zsi_o (by decide), zsi_o (by decide)]
                · rw [zsi_o (by decide), zsi_1, if_pos ⟨rfl, rfl⟩]
                · rw [zsi_o (by decide), zsi_o (by decide), zsi_o (by decide), zsi_o (by decide), zsi_o (by decide)]
                · intro c
                  rw [zsi_1, zsi_o (by decide), zsi_o (by decide), zsi_o (by decide), zsi_o (by decide)]
                  simp
                · intro c
                  rw [zsi_o (by decide), zsi_o (by decide), zsi_1, zsi_1, zsi_1]
                  simp
  by_cases h0 : dW D = 0
  · have e2 : rFin (mT w t) m p D = (false, p, D) := if_pos (Or.inl h0)
    rw [e2] at hE
    refine zk_aload_n hX dX12_readsFinger_0 rfl ?_
    refine zk_getI hX dX12_readsFinger_1 flX12_168 k_166 z_166 ?_
    rw [hR.2.2.1.1, h0]
    refine zk_if_eq (tgt := 16) hX dX12_readsFinger_4 (by decide) (fun c4 => ?_) (fun c4 => ?_)
    rotate_left
    · exact absurd rfl c4
    refine zk_iconst (v := 0) hX dX12_readsFinger_16 (by decide) ?_
    refine zk_zret hX hE rfl ⟨rfl, rfl⟩ dX12_readsFinger_17 rfl ⟨_, rfl, ?_⟩
    exact ⟨(zb_f (fun q => by cases q)).symm, zFr_r, hR.2.1, fun q => by cases q⟩
  · by_cases h6 : dF D = 6
    · have e2 : rFin (mT w t) m p D = (false, p, D) := if_pos (Or.inr h6)
      rw [e2] at hE
      refine zk_aload_n hX dX12_readsFinger_0 rfl ?_
      refine zk_getI hX dX12_readsFinger_1 flX12_168 k_166 z_166 ?_
      rw [hR.2.2.1.1]
      refine zk_if_eq (tgt := 16) hX dX12_readsFinger_4 (by decide) (fun c4 => ?_) (fun c4 => ?_)
      · exact absurd (nI_inj (a := dW D) (b := 0) (by omega) (by decide) c4) h0
      refine zk_aload_n hX dX12_readsFinger_7 rfl ?_
      refine zk_getI hX dX12_readsFinger_8 flX12_174 k_166 z_166 ?_
      rw [hR.2.2.1.2.1, h6]
      refine zk_bipush (v := 6) hX dX12_readsFinger_11 (by decide) ?_
      refine zk_icmp_ne (tgt := 18) hX dX12_readsFinger_13 (by decide) (fun c13 => ?_) (fun c13 => ?_)
      · exact absurd c13 (fun q => q rfl)
      refine zk_iconst (v := 0) hX dX12_readsFinger_16 (by decide) ?_
      refine zk_zret hX hE rfl ⟨rfl, rfl⟩ dX12_readsFinger_17 rfl ⟨_, rfl, ?_⟩
      exact ⟨(zb_f (fun q => by cases q)).symm, zFr_r, hR.2.1, fun q => by cases q⟩
    · have hFp : zFr [] [] [16, 17] w (zsi w 166 16 (nI (p + 1))) := zFr_m (by decide)
      have hR1 := mRd_f (q := p + 1) hR hFp (by rw [zsi_1, if_pos ⟨rfl, rfl⟩])
      generalize ew : zsi w 166 16 (nI (p + 1)) = w1 at hFp hR1
      have hw1 := zFr_wf hFp hw
      have eT : mT w1 t = mT w t := mT_f hFp (by decide)
      by_cases h4 : 7 < zfg (mT w t) m (p + 1)
      · have e2 : rFin (mT w t) m p D = (false, p + 1, D) := by
          show (if dW D = 0 ∨ dF D = 6 then _ else _) = _
          rw [if_neg (by omega), if_pos h4]
        rw [e2] at hE
        have cj := s_X12_figure_n (G := G) hw1 ht hm (show p + 1 ≤ 80 by omega) (x := 7) (by decide) hR1.1 hR1.2.1 (by rw [eT]; omega)
        refine zk_aload_n hX dX12_readsFinger_0 rfl ?_
        refine zk_getI hX dX12_readsFinger_1 flX12_168 k_166 z_166 ?_
        rw [hR.2.2.1.1]
        refine zk_if_eq (tgt := 16) hX dX12_readsFinger_4 (by decide) (fun c4 => ?_) (fun c4 => ?_)
        · exact absurd (nI_inj (a := dW D) (b := 0) (by omega) (by decide) c4) h0
        refine zk_aload_n hX dX12_readsFinger_7 rfl ?_
        refine zk_getI hX dX12_readsFinger_8 flX12_174 k_166 z_166 ?_
        rw [hR.2.2.1.2.1]
        refine zk_bipush (v := 6) hX dX12_readsFinger_11 (by decide) ?_
        refine zk_icmp_ne (tgt := 18) hX dX12_readsFinger_13 (by decide) (fun c13 => ?_) (fun c13 => ?_)
        rotate_left
        · exact absurd (nI_inj (a := dF D) (b := 6) (by omega) (by decide) c13) h6
        refine zk_aload_n hX dX12_readsFinger_18 rfl ?_
        refine zk_dup hX dX12_readsFinger_19 rfl ?_
        refine zk_getI hX dX12_readsFinger_20 flX12_159 k_166 z_166 ?_
        rw [hR.2.1]
        refine zk_iconst (v := 1) hX dX12_readsFinger_23 (by decide) ?_
        refine zk_iadd hX dX12_readsFinger_24 ?_
        rw [nI_1]
        refine zk_putI hX dX12_readsFinger_25 plX12_159 (fun h => by cases h) k_166 z_166 rfl rfl ?_
        rw [ew]
        refine zk_aload_n hX dX12_readsFinger_28 rfl ?_
        refine zk_iload_n hX dX12_readsFinger_29 rfl ?_
        refine zk_bipush (v := 7) hX dX12_readsFinger_30 (by decide) ?_
        refine zk_V2i hX dX12_readsFinger_32 kcX12_figure mlX12_177 viX12_figure rfl k_166 z_166 cj (Nat.le_of_ble_eq_true rfl) rfl ?_
        refine zk_if_ne (tgt := 40) hX dX12_readsFinger_35 (by decide) (fun c35 => ?_) (fun c35 => ?_)
        · exact absurd c35 (by decide)
        refine zk_iconst (v := 0) hX dX12_readsFinger_38 (by decide) ?_
        refine zk_zret hX hE rfl ⟨rfl, rfl⟩ dX12_readsFinger_39 rfl ⟨_, rfl, ?_⟩
        exact ⟨(zb_f (fun q => by cases q)).symm, zFr_t (zFr_s hFp (by decide)) (zFr_t (zFr_m (by simp)) (zFr_m (by simp))), by rw [zsi_1, if_pos ⟨rfl, rfl⟩], fun q => by cases q⟩
      · have hpm := zfg_p (T := mT w t) (m := m) (p := p + 1) (by omega)
        have ok := dFin_ok hD (s := zfg (mT w t) m (p + 1)) (by omega) (by omega) (by omega)
        have e2 : rFin (mT w t) m p D = rJs (mT w t) m 3 (p + 2) (dFin D (zfg (mT w t) m (p + 1))) := by
          show (if dW D = 0 ∨ dF D = 6 then _ else _) = _
          rw [if_neg (by omega), if_neg h4]
        have eL : dL (dFin D (zfg (mT w t) m (p + 1))) (dF D + 1 - 1) = 0 := by
          rw [show dF D + 1 - 1 = dF D by omega]
          exact nup_s
        have cj := s_X12_figure_y (G := G) hw1 ht hm (show p + 1 ≤ 80 by omega) (x := 7) (by decide) hR1.1 hR1.2.1 (by rw [eT]; omega)
        rw [eT] at cj
        generalize ewb : zsi (zsi w1 166 17 (nI (zfg (mT w t) m (p + 1)))) 166 16 (nI (p + 1 + 1)) = wb at cj
        have hFb : zFr [] [] [16, 17] w1 wb := by
          rw [← ewb]
          exact zFr_t (zFr_m (by simp)) (zFr_m (by simp))
        have eb6 : wb.1 166 16 = nI (p + 2) := by rw [← ewb, zsi_1, if_pos ⟨rfl, rfl⟩]
        have eb7 : wb.1 166 17 = nI (zfg (mT w t) m (p + 1)) := by rw [← ewb, zsi_1, if_neg (by omega), zsi_1, if_pos ⟨rfl, rfl⟩]
        have hRb := mRd_f hR1 hFb eb6
        have hwb := zFr_wf hFb hw1
        refine zk_aload_n hX dX12_readsFinger_0 rfl ?_
        refine zk_getI hX dX12_readsFinger_1 flX12_168 k_166 z_166 ?_
        rw [hR.2.2.1.1]
        refine zk_if_eq (tgt := 16) hX dX12_readsFinger_4 (by decide) (fun c4 => ?_) (fun c4 => ?_)
        · exact absurd (nI_inj (a := dW D) (b := 0) (by omega) (by decide) c4) h0
        refine zk_aload_n hX dX12_readsFinger_7 rfl ?_
        refine zk_getI hX dX12_readsFinger_8 flX12_174 k_166 z_166 ?_
        rw [hR.2.2.1.2.1]
        refine zk_bipush (v := 6) hX dX12_readsFinger_11 (by decide) ?_
        refine zk_icmp_ne (tgt := 18) hX dX12_readsFinger_13 (by decide) (fun c13 => ?_) (fun c13 => ?_)
        rotate_left
        · exact absurd (nI_inj (a := dF D) (b := 6) (by omega) (by decide) c13) h6
        refine zk_aload_n hX dX12_readsFinger_18 rfl ?_
        refine zk_dup hX dX12_readsFinger_19 rfl ?_
        refine zk_getI hX dX12_readsFinger_20 flX12_159 k_166 z_166 ?_
        rw [hR.2.1]
        refine zk_iconst (v := 1) hX dX12_readsFinger_23 (by decide) ?_
        refine zk_iadd hX dX12_readsFinger_24 ?_
        rw [nI_1]
        refine zk_putI hX dX12_readsFinger_25 plX12_159 (fun h => by cases h) k_166 z_166 rfl rfl ?_
        rw [ew]
        refine zk_aload_n hX dX12_readsFinger_28 rfl ?_
        refine zk_iload_n hX dX12_readsFinger_29 rfl ?_
        refine zk_bipush (v := 7) hX dX12_readsFinger_30 (by decide) ?_
        refine zk_V2i hX dX12_readsFinger_32 kcX12_figure mlX12_177 viX12_figure rfl k_166 z_166 cj (Nat.le_of_ble_eq_true rfl) rfl ?_
        refine zk_if_ne (tgt := 40) hX dX12_readsFinger_35 (by decide) (fun c35 => ?_) (fun c35 => ?_)
        rotate_left
        · exact absurd c35 (by decide)
        refine zk_iconst (v := 4) hX dX12_readsFinger_40 (by decide) ?_
        refine zk_aload_n hX dX12_readsFinger_41 rfl ?_
        refine zk_getI hX dX12_readsFinger_42 flX12_174 k_166 z_166 ?_
        rw [hRb.2.2.1.2.1]
        refine zk_imul hX dX12_readsFinger_45 ?_
        rw [show (4 : Int32) = nI 4 from rfl, nI_mul]
        refine zk_istore_n (lo' := [_, _, _, _, _]) hX dX12_readsFinger_46 (Nat.le_of_ble_eq_true rfl) rfl rfl ?_
        refine zk_aload_n hX dX12_readsFinger_47 rfl ?_
        refine zk_getR hX dX12_readsFinger_48 flX12_41 k_166 z_166 (hwb _ _ (by decide) |>.trans r_166_22) ?_
        refine zk_iload_n hX dX12_readsFinger_51 rfl ?_
        refine zk_aload_n hX dX12_readsFinger_52 rfl ?_
        refine zk_getI hX dX12_readsFinger_53 flX12_168 k_166 z_166 ?_
        rw [hRb.2.2.1.1]
        refine zk_iconst (v := 1) hX dX12_readsFinger_56 (by decide) ?_
        refine zk_isub hX dX12_readsFinger_57 ?_
        rw [show (1 : Int32) = nI 1 from rfl, nI_sub (by omega)]
        refine zk_iastE hX dX12_readsFinger_58 rfl k_177 z_177 (by first | assumption | omega) rfl ?_
        refine zk_aload_n hX dX12_readsFinger_59 rfl ?_
        refine zk_getR hX dX12_readsFinger_60 flX12_41 k_166 z_166 (hwb _ _ (by decide) |>.trans r_166_22) ?_
        refine zk_iload_n hX dX12_readsFinger_63 rfl ?_
        refine zk_iconst (v := 1) hX dX12_readsFinger_64 (by decide) ?_
        refine zk_iadd hX dX12_readsFinger_65 ?_
        rw [nI_1]
        refine zk_aload_n hX dX12_readsFinger_66 rfl ?_
        refine zk_getI hX dX12_readsFinger_67 flX12_165 k_166 z_166 ?_
        rw [zsi_o (by decide), eb7]
        refine zk_iastE hX dX12_readsFinger_70 rfl k_177 z_177 (by first | assumption | omega) rfl ?_
        refine zk_aload_n hX dX12_readsFinger_71 rfl ?_
        refine zk_getR hX dX12_readsFinger_72 flX12_41 k_166 z_166 (hwb _ _ (by decide) |>.trans r_166_22) ?_
        refine zk_iload_n hX dX12_readsFinger_75 rfl ?_
        refine zk_iconst (v := 2) hX dX12_readsFinger_76 (by decide) ?_
        refine zk_iadd hX dX12_readsFinger_77 ?_
        rw [show (2 : Int32) = nI 2 from rfl, nI_add]
        refine zk_aload_n hX dX12_readsFinger_78 rfl ?_
        refine zk_getI hX dX12_readsFinger_79 flX12_181 k_166 z_166 ?_
        rw [zsi_o (by decide), zsi_o (by decide), hRb.2.2.1.2.2]
        refine zk_iastE hX dX12_readsFinger_82 rfl k_177 z_177 (by first | assumption | omega) rfl ?_
        refine zk_aload_n hX dX12_readsFinger_83 rfl ?_
        refine zk_getR hX dX12_readsFinger_84 flX12_41 k_166 z_166 (hwb _ _ (by decide) |>.trans r_166_22) ?_
        refine zk_iload_n hX dX12_readsFinger_87 rfl ?_
        refine zk_iconst (v := 3) hX dX12_readsFinger_88 (by decide) ?_
        refine zk_iadd hX dX12_readsFinger_89 ?_
        rw [show (3 : Int32) = nI 3 from rfl, nI_add]
        refine zk_iconst (v := 0) hX dX12_readsFinger_90 (by decide) ?_
        refine zk_iastE hX dX12_readsFinger_91 rfl k_177 z_177 (by first | assumption | omega) rfl ?_
        refine zk_iconst (v := 0) hX dX12_readsFinger_92 (by decide) ?_
        refine zk_istore_n (lo' := [_, _, _, _, _]) hX dX12_readsFinger_93 (Nat.le_of_ble_eq_true rfl) rfl rfl ?_
        refine loop 3 0 (p + 2) (dFin D (zfg (mT w t) m (p + 1))) _ _ rfl ?_ ⟨?_, ?_, ?_⟩ ok (by show 0 < dF D + 1; omega) eL (by omega) e2
        · exact zFr_t (zFr_t (zFr_s hFp (by decide)) (zFr_s hFb (by decide))) (zFr_t (zFr_t (zFr_t (zFr_i (by decide) (by decide)) (zFr_i (by decide) (by decide))) (zFr_i (by decide) (by decide))) (zFr_i (by decide) (by decide)))
        · rw [zsi_o (by decide), zsi_o (by decide), zsi_o (by decide), zsi_o (by decide)]
          exact hRb.1
        · rw [zsi_o (by decide), zsi_o (by decide), zsi_o (by decide), zsi_o (by decide)]
          exact eb6
        · refine rdH_n hRb.2.2 ?_ ?_ ?_ ?_ ?_ ?_
          · rw [zsi_o (by decide), zsi_o (by decide), zsi_o (by decide), zsi_o (by decide)]
          · rw [zsi_o (by decide), zsi_o (by decide), zsi_o (by decide), zsi_o (by decide)]
          · rw [zsi_o (by decide), zsi_o (by decide), zsi_o (by decide), zsi_o (by decide)]
          · rw [zsi_o (by decide), zsi_o (by decide), zsi_o (by decide), zsi_o (by decide)]
          · intro c
            rw [zsi_1, zsi_1, zsi_1, zsi_1]
            simp
            rfl
          · rw [zsi_o (by decide), zsi_o (by decide), zsi_o (by decide), zsi_o (by decide)]
