/-! the model's reader -/
theorem nI_inj {a b : Nat} (ha : a < 2 ^ 31) (hb : b < 2 ^ 31) (h : nI a = nI b) : a = b := by
  have h1 := nI_leD (a := a) (y := b) (by rw [h]; exact Int32.le_refl _) ha hb
  have h2 := nI_leD (a := b) (y := a) (by rw [h]; exact Int32.le_refl _) hb ha
  omega
def rdH (w : zW) (k : Nat) (D : zD) : Prop := (w.1 166 18 = nI (dW D) ∧ w.1 166 19 = nI k ∧ w.1 166 20 = nI (dJ D)) ∧ (∀ h, h < dW D → w.1 176 h = nI (dw D h)) ∧
  (∀ f, f < dF D → w.1 177 (4 * f) = nI (dO D f) ∧ w.1 177 (4 * f + 1) = nI (dS D f) ∧ w.1 177 (4 * f + 2) = nI (dI D f) ∧ w.1 177 (4 * f + 3) = nI (dL D f)) ∧
  ∀ j, j < dJ D → w.1 178 (3 * j) = nI (dH D j) ∧ w.1 178 (3 * j + 1) = nI (dB D j) ∧ w.1 178 (3 * j + 2) = nI (dA D j)
def mT (w : zW) (t : Nat) : Nat → Int32 := fun p => w.1 172 (80 * t + p)
theorem rdH_o {w w' : zW} {k : Nat} {D : zD} (h : rdH w k D) (e : w'.1 176 = w.1 176 ∧ w'.1 177 = w.1 177 ∧ w'.1 178 = w.1 178) (e2 : w'.1 166 18 = w.1 166 18 ∧ w'.1 166 19 = w.1 166 19 ∧ w'.1 166 20 = w.1 166 20) : rdH w' k D := by
  unfold rdH
  rw [e.1, e.2.1, e.2.2, e2.1, e2.2.1, e2.2.2]
  exact h
theorem rdH_f {w w' : zW} {k : Nat} {D : zD} {A B F : List Nat} (h : rdH w k D) (hF : zFr A B F w w') (hA : (!A.contains 176 && !A.contains 177 && !A.contains 178 && !F.contains 18 && !F.contains 19 && !F.contains 20) = true) : rdH w' k D := by
  simp only [Bool.and_eq_true, Bool.not_eq_true', ← Bool.not_eq_true, List.contains_iff_mem] at hA
  exact rdH_o h ⟨hF.2.1 _ hA.1.1.1.1.1 (by decide), hF.2.1 _ hA.1.1.1.1.2 (by decide), hF.2.1 _ hA.1.1.1.2 (by decide)⟩ ⟨hF.2.2.2 _ hA.1.1.2, hF.2.2.2 _ hA.1.2, hF.2.2.2 _ hA.2⟩
def zbt (T : Nat → Int32) (m p : Nat) : Int32 := if p < m then T p else 0
theorem zbt_n {T : Nat → Int32} {m p : Nat} : (zfg T m p = 99 ∧ ¬ (48 ≤ zbt T m p ∧ zbt T m p ≤ 57)) ∨ ((48 ≤ zbt T m p ∧ zbt T m p ≤ 57) ∧ zfg T m p ≤ 9 ∧ zbt T m p - 48 = nI (zfg T m p)) := by
  unfold zbt
  rcases zfg_n (T := T) (m := m) (p := p) with ⟨e, h⟩ | ⟨h1, h2, h3⟩
  · refine Or.inl ⟨e, ?_⟩
    by_cases q : p < m
    · rw [if_pos q]
      exact fun z => h ⟨q, z⟩
    · rw [if_neg q]
      decide
  · rw [if_pos h1.1]
    exact Or.inr ⟨h1.2, h2, h3⟩
theorem zbt_b {T : Nat → Int32} {m p x : Nat} (hx : x ≤ 9) : (0 ≤ zbt T m p - 48 ∧ zbt T m p - 48 ≤ nI x) ↔ zfg T m p ≤ x := by
  have hx9 : nI x ≤ 9 := nI_le (b := 9) hx (by decide)
  rcases zbt_n (T := T) (m := m) (p := p) with ⟨e, h⟩ | ⟨h1, h2, h3⟩
  · rw [e]
    exact ⟨fun z => absurd (show 48 ≤ zbt T m p ∧ zbt T m p ≤ 57 by grind) h, fun z => by omega⟩
  · rw [h3]
    exact ⟨fun z => nI_leD z.2, fun z => ⟨nI_pos' (by omega), nI_le z (by omega)⟩⟩
theorem s_X12_byteAt {G : zG} {w : zW} {t m p : Nat} (hw : zWf w) (ht : t < 4) (hm : m ≤ 80) (hp : p ≤ 80) (hS : w.1 171 t = nI m) : zEi G mX12_byteAt [.ref 166, .int (nI t), .int (nI p)] w (zbt (mT w t) m p) w := by
  refine zC_of (lo := [_, _, _]) kcX12_byteAt (Nat.le_of_ble_eq_true rfl) rfl (fun X hX hE => ?_)
  refine zk_iload_n hX dX12_byteAt_0 rfl ?_
  refine zk_aload_n hX dX12_byteAt_1 rfl ?_
  refine zk_getR hX dX12_byteAt_2 flX12_22 k_166 z_166 (hw _ _ (by decide) |>.trans r_166_8) ?_
  refine zk_iload_n hX dX12_byteAt_5 rfl ?_
  refine zk_ialdE hX dX12_byteAt_6 rfl k_171 z_171 (by first | assumption | omega) rfl ?_
  rw [hS]
  refine zk_icmp_ge (tgt := 24) hX dX12_byteAt_7 (by decide) (fun c7 => ?_) (fun c7 => ?_)
  · refine zk_iconst (v := 0) hX dX12_byteAt_24 (by decide) ?_
    refine zk_iret hX hE rfl ⟨rfl, rfl⟩ dX12_byteAt_25 ⟨_, rfl, ?_⟩
    refine ⟨?_, rfl⟩
    unfold zbt
    first
      | (rw [if_pos hpm]; rfl)
      | (rw [if_neg (fun q => absurd (nI_leD c7) (by omega))])
  · refine zk_aload_n hX dX12_byteAt_10 rfl ?_
    refine zk_getR hX dX12_byteAt_11 flX12_25 k_166 z_166 (hw _ _ (by decide) |>.trans r_166_9) ?_
    refine zk_bipush (v := 80) hX dX12_byteAt_14 (by decide) ?_
    refine zk_iload_n hX dX12_byteAt_16 rfl ?_
    refine zk_imul hX dX12_byteAt_17 ?_
    refine zk_iload_n hX dX12_byteAt_18 rfl ?_
    refine zk_iadd hX dX12_byteAt_19 ?_
    have hpm : p < m := (nI_ltI (by omega) (by omega)).mp (Int32.not_le.mp c7)
    refine zk_baldE hX dX12_byteAt_20 (nI_addE (nI_mulE (nI_k 80 rfl) rfl) rfl) k_172 z_172 (by first | assumption | omega) rfl ?_
    refine zk_goto (tgt := 25) hX dX12_byteAt_21 (by decide) ?_
    refine zk_iret hX hE rfl ⟨rfl, rfl⟩ dX12_byteAt_25 ⟨_, rfl, ?_⟩
    refine ⟨?_, rfl⟩
    unfold zbt
    first
      | (rw [if_pos hpm]; rfl)
      | (rw [if_neg (fun q => absurd (nI_leD c7) (by omega))])
theorem s_X12_isFigure {G : zG} {w : zW} {t m p : Nat} (hw : zWf w) (ht : t < 4) (hm : m ≤ 80) (hp : p ≤ 80) (hS : w.1 171 t = nI m) (hP : w.1 166 16 = nI p) : zEi G mX12_isFigure [.ref 166, .int (nI t)] w (zb (¬ zfg (mT w t) m p = 99)) w := by
  refine zC_of (lo := [_, _]) kcX12_isFigure (Nat.le_of_ble_eq_true rfl) rfl (fun X hX hE => ?_)
  refine zk_aload_n hX dX12_isFigure_0 rfl ?_
  refine zk_iload_n hX dX12_isFigure_1 rfl ?_
  refine zk_aload_n hX dX12_isFigure_2 rfl ?_
  refine zk_getI hX dX12_isFigure_3 flX12_159 k_166 z_166 ?_
  rw [hP]
  refine zk_V2i hX dX12_isFigure_6 kcX12_byteAt mlX12_162 viX12_byteAt rfl k_166 z_166 (s_X12_byteAt hw ht hm hp hS) (Nat.le_of_ble_eq_true rfl) rfl ?_
  refine zk_bipush (v := 48) hX dX12_isFigure_9 (by decide) ?_
  refine zk_bipush (v := 57) hX dX12_isFigure_11 (by decide) ?_
  refine zk_S3i hX dX12_isFigure_13 kcX12_in mlX12_131 smX12_in rfl (s_X12_in _ _ _) (Nat.le_of_ble_eq_true rfl) rfl ?_
  refine zk_zret hX hE rfl ⟨rfl, rfl⟩ dX12_isFigure_16 (by simp [narrow, zb_and1]) ⟨_, rfl, ?_⟩
  refine ⟨?_, rfl⟩
  rcases zbt_n (T := mT w t) (m := m) (p := p) with ⟨e, h⟩ | ⟨h1, h2, h3⟩
  · rw [zb_f h, zb_f (fun q => q e)]
  · rw [zb_t h1, zb_t (by omega)]
theorem s_X12_figure {G : zG} {w : zW} {t m p x : Nat} (hw : zWf w) (ht : t < 4) (hm : m ≤ 80) (hp : p ≤ 80) (hx : x ≤ 9) (hS : w.1 171 t = nI m) (hP : w.1 166 16 = nI p) :
    zCi G mX12_figure [.ref 166, .int (nI t), .int (nI x)] w (fun r w' => zFr [] [] [16, 17] w w' ∧ ((zfg (mT w t) m p ≤ x ∧ r = 1 ∧ w'.1 166 16 = nI (p + 1) ∧ w'.1 166 17 = nI (zfg (mT w t) m p)) ∨ (¬ zfg (mT w t) m p ≤ x ∧ r = 0 ∧ w'.1 166 16 = nI p))) := by
  refine zC_of (lo := [_, _, _, _]) kcX12_figure (Nat.le_of_ble_eq_true rfl) rfl (fun X hX hE => ?_)
  refine zk_aload_n hX dX12_figure_0 rfl ?_
  refine zk_aload_n hX dX12_figure_1 rfl ?_
  refine zk_iload_n hX dX12_figure_2 rfl ?_
  refine zk_aload_n hX dX12_figure_3 rfl ?_
  refine zk_getI hX dX12_figure_4 flX12_159 k_166 z_166 ?_
  rw [hP]
  refine zk_V2i hX dX12_figure_7 kcX12_byteAt mlX12_162 viX12_byteAt rfl k_166 z_166 (s_X12_byteAt hw ht hm hp hS) (Nat.le_of_ble_eq_true rfl) rfl ?_
  refine zk_bipush (v := 48) hX dX12_figure_10 (by decide) ?_
  refine zk_isub hX dX12_figure_12 ?_
  refine zk_putI hX dX12_figure_13 plX12_165 (fun h => by cases h) k_166 z_166 rfl rfl ?_
  refine zk_aload_n hX dX12_figure_16 rfl ?_
  refine zk_getI hX dX12_figure_17 flX12_165 k_166 z_166 ?_
  rw [zsi_1, if_pos ⟨rfl, rfl⟩]
  refine zk_iconst (v := 0) hX dX12_figure_20 (by decide) ?_
  refine zk_iload_n hX dX12_figure_21 rfl ?_
  refine zk_S3i hX dX12_figure_22 kcX12_in mlX12_131 smX12_in rfl (s_X12_in _ _ _) (Nat.le_of_ble_eq_true rfl) rfl ?_
  refine zk_istore_n (lo' := [_, _, _, _]) hX dX12_figure_25 (Nat.le_of_ble_eq_true rfl) rfl rfl ?_
  refine zk_aload_n hX dX12_figure_26 rfl ?_
  refine zk_dup hX dX12_figure_27 rfl ?_
  refine zk_getI hX dX12_figure_28 flX12_159 k_166 z_166 ?_
  refine zk_iload_n hX dX12_figure_31 rfl ?_
  refine zk_if_eqB (tgt := 39) hX dX12_figure_32 (by decide) (fun c32 => ?_) (fun c32 => ?_)
  · refine zk_iconst (v := 0) hX dX12_figure_39 (by decide) ?_
    refine zk_iadd hX dX12_figure_40 ?_
    refine zk_putI hX dX12_figure_41 plX12_159 (fun h => by cases h) k_166 z_166 rfl rfl ?_
    refine zk_iload_n hX dX12_figure_44 rfl ?_
    refine zk_zret hX hE rfl ⟨rfl, rfl⟩ dX12_figure_45 (by simp [narrow, zb_and1]) ⟨_, rfl, ?_⟩
    refine ⟨zFr_t (zFr_m (by simp)) (zFr_m (by simp)), ?_⟩
    first
      | (have h : zfg (mT w t) m p ≤ x := zbt_b hx |>.mp (by first | exact Decidable.not_not.mp c32 | exact c32)
         refine Or.inl ⟨h, zb_t ((zbt_b hx).mpr h), ?_, ?_⟩
         · rw [zsi_1, if_pos ⟨rfl, rfl⟩, zsi_1, if_neg (by omega), hP, nI_1]
         · rw [zsi_1, if_neg (by omega), zsi_1, if_pos ⟨rfl, rfl⟩]
           rcases zbt_n (T := mT w t) (m := m) (p := p) with ⟨e, _⟩ | ⟨h1, h2, h3⟩
           · omega
           · exact h3)
      | (have h : ¬ zfg (mT w t) m p ≤ x := fun q => absurd ((zbt_b hx).mpr q) c32
         refine Or.inr ⟨h, zb_f (fun q => h ((zbt_b hx).mp q)), ?_⟩
         rw [zsi_1, if_pos ⟨rfl, rfl⟩, zsi_1, if_neg (by omega), hP, Int32.add_zero])
  · refine zk_iconst (v := 1) hX dX12_figure_35 (by decide) ?_
    refine zk_goto (tgt := 40) hX dX12_figure_36 (by decide) ?_
    refine zk_iadd hX dX12_figure_40 ?_
    refine zk_putI hX dX12_figure_41 plX12_159 (fun h => by cases h) k_166 z_166 rfl rfl ?_
    refine zk_iload_n hX dX12_figure_44 rfl ?_
    refine zk_zret hX hE rfl ⟨rfl, rfl⟩ dX12_figure_45 (by simp [narrow, zb_and1]) ⟨_, rfl, ?_⟩
    refine ⟨zFr_t (zFr_m (by simp)) (zFr_m (by simp)), ?_⟩
    first
      | (have h : zfg (mT w t) m p ≤ x := zbt_b hx |>.mp (by first | exact Decidable.not_not.mp c32 | exact c32)
         refine Or.inl ⟨h, zb_t ((zbt_b hx).mpr h), ?_, ?_⟩
         · rw [zsi_1, if_pos ⟨rfl, rfl⟩, zsi_1, if_neg (by omega), hP, nI_1]
         · rw [zsi_1, if_neg (by omega), zsi_1, if_pos ⟨rfl, rfl⟩]
           rcases zbt_n (T := mT w t) (m := m) (p := p) with ⟨e, _⟩ | ⟨h1, h2, h3⟩
           · omega
           · exact h3)
      | (have h : ¬ zfg (mT w t) m p ≤ x := fun q => absurd ((zbt_b hx).mpr q) c32
         refine Or.inr ⟨h, zb_f (fun q => h ((zbt_b hx).mp q)), ?_⟩
         rw [zsi_1, if_pos ⟨rfl, rfl⟩, zsi_1, if_neg (by omega), hP, Int32.add_zero])
/-- the model's reader at place p of text t; k fingers whole -/
def mRd (w : zW) (t m p k : Nat) (D : zD) : Prop := w.1 171 t = nI m ∧ w.1 166 16 = nI p ∧ rdH w k D
theorem mRd_f {w w1 : zW} {t m p q k : Nat} {D : zD} (h : mRd w t m p k D) (hF : zFr [] [] [16, 17] w w1) (hq : w1.1 166 16 = nI q) : mRd w1 t m q k D := ⟨by rw [hF.2.1 171 (by decide) (by decide)]; exact h.1, hq, rdH_f h.2.2 hF (by decide)⟩
theorem mT_f {w w1 : zW} {t : Nat} {A B F : List Nat} (hF : zFr A B F w w1) (hA : (!A.contains 172) = true) : mT w1 t = mT w t := by
  unfold mT
  simp only [Bool.not_eq_true', ← Bool.not_eq_true, List.contains_iff_mem] at hA
  rw [hF.2.1 172 hA (by decide)]
theorem s_X12_readsHand {G : zG} {w : zW} {t m p : Nat} {D : zD} (hw : zWf w) (ht : t < 4) (hm : m ≤ 80) (hp : p < m) (hD : zDok D) (hR : mRd w t m p (dF D) D) :
    zCi G mX12_readsHand [.ref 166, .int (nI t)] w (fun r w' => r = zb ((rHand (mT w t) m p D).1 = true) ∧ zFr [176, 177, 178] [] [16, 17, 18, 19, 20] w w' ∧ mRd w' t m (rHand (mT w t) m p D).2.1 (dF (rHand (mT w t) m p D).2.2) (rHand (mT w t) m p D).2.2) := by
  have hW2 := hD.1.1
  have hc999 := (rNum_p (T := mT w t) (m := m) 3 (p + 1) 0 (by omega))
  have h1000 : (0 + 1) * 10 ^ 3 = 1000 := by decide
  rw [h1000] at hc999
  refine zC_of (lo := [_, _, _, _]) kcX12_readsHand (Nat.le_of_ble_eq_true rfl) rfl (fun X hX hE => ?_)
  have fin : ∀ c i w1, dW D < 2 → i ≤ 3 → zFr [] [] [16, 17] w w1 → w1.1 166 16 = nI (p + 1 + i) → (p + 1 + i, c) = rNum (mT w t) m 3 (p + 1) 0 → zk0 G X mX12_readsHand 71 [.ref 166, .int (nI t), .int (nI i), .int (nI c)] [] w1 := by
    intro c i w1 hW hi hF hq he
    have hw1 := zFr_wf hF hw
    have hR1 := mRd_f hR hF hq
    have e1 : (rNum (mT w t) m 3 (p + 1) 0).1 = p + 1 + i := by rw [← he]
    have e2 : (rNum (mT w t) m 3 (p + 1) 0).2 = c := by rw [← he]
    rw [e1, e2] at hc999
    have eH : rHand (mT w t) m p D = if p + 1 < p + 1 + i ∧ c < 120 then (true, p + 1 + i, dHand D c) else (false, p + 1 + i, D) := by
      unfold rHand
      rw [if_neg (by omega), e1, e2]
    rw [eH] at hE
    by_cases hi0 : 0 < i
    · by_cases hc : c < 120
      · rw [if_pos ⟨by omega, hc⟩] at hE
        refine zk_iload_n hX dX12_readsHand_71 rfl ?_
        refine zk_if_eq (tgt := 81) hX dX12_readsHand_72 (by decide) (fun c72 => ?_) (fun c72 => ?_)
        · exact absurd c72 (fun q => absurd (nI_inj (a := i) (b := 0) (by omega) (by decide) q) (by omega))
        refine zk_iload_n hX dX12_readsHand_75 rfl ?_
        refine zk_bipush (v := 120) hX dX12_readsHand_76 (by decide) ?_
        refine zk_icmp_lt (tgt := 83) hX dX12_readsHand_78 (by decide) (fun c78 => ?_) (fun c78 => ?_)
        rotate_left
        · exact absurd (nI_lt (b := 120) hc (by decide)) c78
        refine zk_aload_n hX dX12_readsHand_83 rfl ?_
        refine zk_getR hX dX12_readsHand_84 flX12_38 k_166 z_166 (hw1 _ _ (by decide) |>.trans r_166_21) ?_
        refine zk_aload_n hX dX12_readsHand_87 rfl ?_
        refine zk_getI hX dX12_readsHand_88 flX12_168 k_166 z_166 ?_
        rw [hR1.2.2.1.1]
        refine zk_iload_n hX dX12_readsHand_91 rfl ?_
        refine zk_iastE hX dX12_readsHand_92 rfl k_176 z_176 (by first | assumption | omega) rfl ?_
        refine zk_aload_n hX dX12_readsHand_93 rfl ?_
        refine zk_dup hX dX12_readsHand_94 rfl ?_
        refine zk_getI hX dX12_readsHand_95 flX12_168 k_166 z_166 ?_
        rw [zsi_o (by decide), hR1.2.2.1.1]
        refine zk_iconst (v := 1) hX dX12_readsHand_98 (by decide) ?_
        refine zk_iadd hX dX12_readsHand_99 ?_
        rw [nI_1]
        refine zk_putI hX dX12_readsHand_100 plX12_168 (fun h => by cases h) k_166 z_166 rfl rfl ?_
        refine zk_iconst (v := 1) hX dX12_readsHand_103 (by decide) ?_
        refine zk_zret hX hE rfl ⟨rfl, rfl⟩ dX12_readsHand_104 rfl ⟨_, rfl, ?_⟩
        refine ⟨(zb_t rfl).symm, zFr_t (zFr_t (zFr_s hF (by decide)) (zFr_i (by simp) (by decide))) (zFr_m (by simp)), ?_, ?_, ⟨?_, ?_, ?_⟩, ?_, ?_, ?_⟩
        · rw [zsi_o (by decide), zsi_o (by decide)]
          exact hR1.1
        · rw [zsi_1, if_neg (by omega), zsi_o (by decide)]
          exact hq
        · rw [zsi_1, if_pos ⟨rfl, rfl⟩]
          rfl
        · rw [zsi_1, if_neg (by omega), zsi_o (by decide)]
          exact hR1.2.2.1.2.1
        · rw [zsi_1, if_neg (by omega), zsi_o (by decide)]
          exact hR1.2.2.1.2.2
        · intro h hh
          have hh : h < dW D + 1 := hh
          show _ = nI (nup (dw D) (dW D) c h)
          rw [zsi_o (by decide), zsi_1]
          by_cases q : h = dW D
          · rw [if_pos ⟨rfl, q⟩, q, nup_s]
          · rw [if_neg (fun z => q z.2), nup_n q]
            exact hR1.2.2.2.1 h (by omega)
        · intro f hf
          rw [zsi_o (by decide), zsi_o (by decide)]
          exact hR1.2.2.2.2.1 f hf
        · intro j hj
          rw [zsi_o (by decide), zsi_o (by decide)]
          exact hR1.2.2.2.2.2 j hj
      · rw [if_neg (fun z => hc z.2)] at hE
        refine zk_iload_n hX dX12_readsHand_71 rfl ?_
        refine zk_if_eq (tgt := 81) hX dX12_readsHand_72 (by decide) (fun c72 => ?_) (fun c72 => ?_)
        · exact absurd c72 (fun q => absurd (nI_inj (a := i) (b := 0) (by omega) (by decide) q) (by omega))
        refine zk_iload_n hX dX12_readsHand_75 rfl ?_
        refine zk_bipush (v := 120) hX dX12_readsHand_76 (by decide) ?_
        refine zk_icmp_lt (tgt := 83) hX dX12_readsHand_78 (by decide) (fun c78 => ?_) (fun c78 => ?_)
        · exact absurd c78 (nI_nlt (b := 120) (by omega) (by omega))
        refine zk_iconst (v := 0) hX dX12_readsHand_81 (by decide) ?_
        refine zk_zret hX hE rfl ⟨rfl, rfl⟩ dX12_readsHand_82 rfl ⟨_, rfl, ?_⟩
        exact ⟨(zb_f (fun q => by cases q)).symm, zFr_s hF (by decide), hR1⟩
    · rw [if_neg (fun z => by omega)] at hE
      refine zk_iload_n hX dX12_readsHand_71 rfl ?_
      refine zk_if_eq (tgt := 81) hX dX12_readsHand_72 (by decide) (fun c72 => ?_) (fun c72 => ?_)
      rotate_left
      · exact absurd (by rw [show i = 0 by omega]; rfl) c72
      refine zk_iconst (v := 0) hX dX12_readsHand_81 (by decide) ?_
      refine zk_zret hX hE rfl ⟨rfl, rfl⟩ dX12_readsHand_82 rfl ⟨_, rfl, ?_⟩
      exact ⟨(zb_f (fun q => by cases q)).symm, zFr_s hF (by decide), hR1⟩
  have loop : dW D < 2 → ∀ n i c w1, i + n = 3 → zFr [] [] [16, 17] w w1 → w1.1 166 16 = nI (p + 1 + i) → p + 1 + i ≤ m → rNum (mT w t) m n (p + 1 + i) c = rNum (mT w t) m 3 (p + 1) 0 → zk0 G X mX12_readsHand 24 [.ref 166, .int (nI t), .int (nI i), .int (nI c)] [] w1 := by
    intro hW n
    induction n with
    | zero =>
      intro i c w1 hi hF hq hpm he
      refine zk_iload_n hX dX12_readsHand_24 rfl ?_
      refine zk_iconst (v := 3) hX dX12_readsHand_25 (by decide) ?_
      refine zk_icmp_ge (tgt := 71) hX dX12_readsHand_26 (by decide) (fun c26 => ?_) (fun c26 => ?_)
      rotate_left
      · exact absurd (nI_le (a := 3) (by omega) (by omega)) c26
      exact fin c i w1 hW (by omega) hF hq he
    | succ n ih =>
      intro i c w1 hi hF hq hpm he
      have hw1 := zFr_wf hF hw
      have hR1 := mRd_f hR hF hq
      have eT : mT w1 t = mT w t := mT_f hF (by decide)
      have cf := s_X12_isFigure (G := G) hw1 ht hm (show p + 1 + i ≤ 80 by omega) hR1.1 hq
      have cb := s_X12_byteAt (G := G) hw1 ht hm (show p + 1 + i ≤ 80 by omega) hR1.1
      rw [eT] at cf cb
      unfold rNum at he
      rcases zbt_n (T := mT w t) (m := m) (p := p + 1 + i) with ⟨e, _⟩ | ⟨h1, h2, h3⟩
      · rw [if_pos e] at he
        refine zk_iload_n hX dX12_readsHand_24 rfl ?_
        refine zk_iconst (v := 3) hX dX12_readsHand_25 (by decide) ?_
        refine zk_icmp_ge (tgt := 71) hX dX12_readsHand_26 (by decide) (fun c26 => ?_) (fun c26 => ?_)
        · exact absurd c26 (nI_ge (b := 3) (by omega) (by decide))
        refine zk_aload_n hX dX12_readsHand_29 rfl ?_
        refine zk_iload_n hX dX12_readsHand_30 rfl ?_
        refine zk_V1i hX dX12_readsHand_31 kcX12_isFigure mlX12_171 viX12_isFigure rfl k_166 z_166 cf (Nat.le_of_ble_eq_true rfl) rfl ?_
        refine zk_if_eqB (tgt := 71) hX dX12_readsHand_34 (by decide) (fun c34 => ?_) (fun c34 => ?_)
        rotate_left
        · exact absurd e c34
        exact fin c i w1 hW (by omega) hF hq he
      · rw [if_neg (by omega)] at he
        have hc10 : 10 * nI c + zbt (mT w t) m (p + 1 + i) - 48 = nI (10 * c + zfg (mT w t) m (p + 1 + i)) := by
          rw [← nI_add, ← nI_mul, ← h3, show (10 : Int32) = nI 10 from rfl]
          grind
        refine zk_iload_n hX dX12_readsHand_24 rfl ?_
        refine zk_iconst (v := 3) hX dX12_readsHand_25 (by decide) ?_
        refine zk_icmp_ge (tgt := 71) hX dX12_readsHand_26 (by decide) (fun c26 => ?_) (fun c26 => ?_)
        · exact absurd c26 (nI_ge (b := 3) (by omega) (by decide))
        refine zk_aload_n hX dX12_readsHand_29 rfl ?_
        refine zk_iload_n hX dX12_readsHand_30 rfl ?_
        refine zk_V1i hX dX12_readsHand_31 kcX12_isFigure mlX12_171 viX12_isFigure rfl k_166 z_166 cf (Nat.le_of_ble_eq_true rfl) rfl ?_
        refine zk_if_eqB (tgt := 71) hX dX12_readsHand_34 (by decide) (fun c34 => ?_) (fun c34 => ?_)
        · exact absurd c34 (by omega)
        refine zk_bipush (v := 10) hX dX12_readsHand_37 (by decide) ?_
        refine zk_iload_n hX dX12_readsHand_39 rfl ?_
        refine zk_imul hX dX12_readsHand_40 ?_
        refine zk_aload_n hX dX12_readsHand_41 rfl ?_
        refine zk_iload_n hX dX12_readsHand_42 rfl ?_
        refine zk_aload_n hX dX12_readsHand_43 rfl ?_
        refine zk_getI hX dX12_readsHand_44 flX12_159 k_166 z_166 ?_
        rw [hq]
        refine zk_V2i hX dX12_readsHand_47 kcX12_byteAt mlX12_162 viX12_byteAt rfl k_166 z_166 cb (Nat.le_of_ble_eq_true rfl) rfl ?_
        refine zk_iadd hX dX12_readsHand_50 ?_
        refine zk_bipush (v := 48) hX dX12_readsHand_51 (by decide) ?_
        refine zk_isub hX dX12_readsHand_53 ?_
        rw [hc10]
        refine zk_istore_n (lo' := [_, _, _, _]) hX dX12_readsHand_54 (Nat.le_of_ble_eq_true rfl) rfl rfl ?_
        refine zk_aload_n hX dX12_readsHand_55 rfl ?_
        refine zk_dup hX dX12_readsHand_56 rfl ?_
        refine zk_getI hX dX12_readsHand_57 flX12_159 k_166 z_166 ?_
        rw [hq]
        refine zk_iconst (v := 1) hX dX12_readsHand_60 (by decide) ?_
        refine zk_iadd hX dX12_readsHand_61 ?_
        rw [nI_1]
        refine zk_putI hX dX12_readsHand_62 plX12_159 (fun h => by cases h) k_166 z_166 rfl rfl ?_
        refine zk_iinc (lo' := [_, _, _, _]) hX dX12_readsHand_65 rfl (by first | exact zinc _ | exact rfl) (Nat.le_of_ble_eq_true rfl) rfl rfl ?_
        refine zk_goto (tgt := 24) hX dX12_readsHand_68 (by decide) ?_
        exact ih (i + 1) _ _ (by omega) (zFr_t hF (zFr_m (by simp))) (by rw [zsi_1, if_pos ⟨rfl, rfl⟩]; rfl) (by have := zfg_p (T := mT w t) (m := m) (p := p + 1 + i) (by omega); omega) he
  by_cases hW : dW D = 2
  · have eH : rHand (mT w t) m p D = (false, p, D) := if_pos hW
    rw [eH] at hE
    refine zk_aload_n hX dX12_readsHand_0 rfl ?_
    refine zk_getI hX dX12_readsHand_1 flX12_168 k_166 z_166 ?_
    rw [hR.2.2.1.1, hW]
    refine zk_iconst (v := 2) hX dX12_readsHand_4 (by decide) ?_
    refine zk_icmp_ne (tgt := 10) hX dX12_readsHand_5 (by decide) (fun c5 => ?_) (fun c5 => ?_)
    · exact absurd c5 (by decide)
    refine zk_iconst (v := 0) hX dX12_readsHand_8 (by decide) ?_
    refine zk_zret hX hE rfl ⟨rfl, rfl⟩ dX12_readsHand_9 rfl ⟨_, rfl, ?_⟩
    exact ⟨(zb_f (fun q => by cases q)).symm, zFr_r, hR⟩
  · refine zk_aload_n hX dX12_readsHand_0 rfl ?_
    refine zk_getI hX dX12_readsHand_1 flX12_168 k_166 z_166 ?_
    rw [hR.2.2.1.1]
    refine zk_iconst (v := 2) hX dX12_readsHand_4 (by decide) ?_
    refine zk_icmp_ne (tgt := 10) hX dX12_readsHand_5 (by decide) (fun c5 => ?_) (fun c5 => ?_)
    rotate_left
    · exact absurd (nI_inj (a := dW D) (b := 2) (by omega) (by decide) c5) hW
    refine zk_aload_n hX dX12_readsHand_10 rfl ?_
    refine zk_dup hX dX12_readsHand_11 rfl ?_
    refine zk_getI hX dX12_readsHand_12 flX12_159 k_166 z_166 ?_
    rw [hR.2.1]
    refine zk_iconst (v := 1) hX dX12_readsHand_15 (by decide) ?_
    refine zk_iadd hX dX12_readsHand_16 ?_
    rw [nI_1]
    refine zk_putI hX dX12_readsHand_17 plX12_159 (fun h => by cases h) k_166 z_166 rfl rfl ?_
    refine zk_iconst (v := 0) hX dX12_readsHand_20 (by decide) ?_
    refine zk_istore_n (lo' := [_, _, _, _]) hX dX12_readsHand_21 (Nat.le_of_ble_eq_true rfl) rfl rfl ?_
    refine zk_iconst (v := 0) hX dX12_readsHand_22 (by decide) ?_
    refine zk_istore_n (lo' := [_, _, _, _]) hX dX12_readsHand_23 (Nat.le_of_ble_eq_true rfl) rfl rfl ?_
    exact loop (by omega) 3 0 0 _ rfl (zFr_m (by simp)) (by rw [zsi_1, if_pos ⟨rfl, rfl⟩]) (by omega) rfl
