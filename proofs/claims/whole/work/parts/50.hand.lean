theorem rAll_ok {T : Nat → Int32} {m : Nat} : ∀ (n p : Nat) (D : zD), zDok D → zDok (rAll T m n p D).2
  | 0, p, D, hD => hD
  | n + 1, p, D, hD => by
    unfold rAll
    by_cases h : p < m
    · rw [if_pos h]
      have ok := rOne_ok (T := T) hD h
      by_cases h2 : (rOne T m p D).1 = true
      · rw [if_pos h2]
        exact rAll_ok n _ _ ok.1
      · rw [if_neg h2]
        exact ok.1
    · rw [if_neg h]
      exact hD
theorem zkept_z {f : Nat → Int32} : ∀ m, (∀ q, q < m → 0 ≤ f q) → zkept f 0 m = 0
  | 0, _ => rfl
  | m + 1, h => by
    rw [zkept_f (by have := h m (by omega); grind)]
    exact zkept_z m (fun q hq => h q (by omega))
theorem zFr_all' {A B : List Nat} {w w' : zW} (h : zFr A B [] w w') {c : Nat} (hc : c ∉ A) : w'.1 c = w.1 c := by
  by_cases e : c = 166
  · rw [e]
    exact funext (fun i => h.2.2.2 i (by simp))
  · exact h.2.1 c hc e
def oHd : List Nat := [0, 25, 26, 27, 28, 29, 30, 31, 32, 33, 34, 35, 36, 37, 38, 39, 40, 41, 42, 43, 114, 124, 125, 126, 131, 132, 133, 134, 139, 140, 145]
theorem s_X11_hands_bad {G : zG} {w : zW} (t : Int32) (h : ¬ (0 ≤ t ∧ t < 4)) : zEi G mX11_hands [.ref 0, .int t] w (-1) w := by
  refine zC_of (lo := [_, _]) kcX11_hands (Nat.le_of_ble_eq_true rfl) rfl (fun X hX hE => ?_)
  refine zk_iload_n hX dX11_hands_0 rfl ?_
  refine zk_S1i hX dX11_hands_1 kcX11_isText mlX11_153 smX11_isText rfl (s_X11_isText _) (Nat.le_of_ble_eq_true rfl) rfl ?_
  refine zk_if_neB (tgt := 9) hX dX11_hands_4 (by decide) (fun c4 => ?_) (fun c4 => ?_)
  · exact absurd c4 h
  refine zk_iconst (v := -1) hX dX11_hands_7 (by decide) ?_
  refine zk_iret hX hE rfl ⟨rfl, rfl⟩ dX11_hands_8 ⟨_, rfl, ?_⟩
  exact ⟨rfl, rfl⟩
theorem s_X11_hands_m {G : zG} {w : zW} {t : Nat} (hw : zWf w) (ht : t < 4) (hS : w.1 (17 + 2 * t) 0 < 0) : zEi G mX11_hands [.ref 0, .int (nI t)] w (-3) (zfind w 1) := by
  refine zC_of (lo := [_, _]) kcX11_hands (Nat.le_of_ble_eq_true rfl) rfl (fun X hX hE => ?_)
  refine zk_iload_n hX dX11_hands_0 rfl ?_
  refine zk_S1i hX dX11_hands_1 kcX11_isText mlX11_153 smX11_isText rfl (s_X11_isText _) (Nat.le_of_ble_eq_true rfl) rfl ?_
  refine zk_if_neB (tgt := 9) hX dX11_hands_4 (by decide) (fun c4 => ?_) (fun c4 => ?_)
  rotate_left
  · exact absurd (zrlt ht) c4
  refine zk_aload_n hX dX11_hands_9 rfl ?_
  refine zk_getR hX dX11_hands_10 flX11_25 k_0 z_0 (hw _ _ (by decide) |>.trans r_0_2) ?_
  refine zk_iload_n hX dX11_hands_13 rfl ?_
  refine zk_texts hX hw dX11_hands_14 rfl (by first | assumption | omega) ?_
  refine zk_V0i hX dX11_hands_15 kcX8_isThere mlX11_119 viX8_isThere rfl (zRwT0 (by first | assumption | omega)) (zRw_t _ (by first | assumption | omega)).2.1 (s_X8_isThere (zRwT ht)) (Nat.le_of_ble_eq_true rfl) rfl ?_
  refine zk_if_neB (tgt := 30) hX dX11_hands_18 (by decide) (fun c18 => ?_) (fun c18 => ?_)
  · exact absurd c18 (by grind)
  refine zk_aload_n hX dX11_hands_21 rfl ?_
  refine zk_getR hX dX11_hands_22 flX11_12 k_0 z_0 (hw _ _ (by decide) |>.trans r_0_0) ?_
  refine zk_iconst (v := 1) hX dX11_hands_25 (by decide) ?_
  refine zk_V1i hX dX11_hands_26 kcX9_find mlX11_111 viX9_find rfl k_1 z_1 (s_X9_find hw _ (by decide)) (Nat.le_of_ble_eq_true rfl) rfl ?_
  refine zk_iret hX hE rfl ⟨rfl, rfl⟩ dX11_hands_29 ⟨_, rfl, ?_⟩
  exact ⟨rfl, rfl⟩
theorem s_X11_hands {G : zG} {w : zW} {t m c : Nat} (hw : zWf w) (ht : t < 4) (hm : m ≤ 80) (hS : w.1 (17 + 2 * t) 0 = nI m) (hc : c ≤ 24) (h4 : w.1 114 2 = nI c) (h5 : ∀ q, q < c → 0 ≤ w.1 125 q) :
    zCi G mX11_hands [.ref 0, .int (nI t)] w (fun r w' => zWf w' ∧
      ((¬ (rAll (w.1 (17 + 2 * t + 1)) m 81 0 dNil).1 = -9 ∧ r = -4 ∧ (∀ c, c ∉ [25, 35, 36, 37, 38, 39, 40, 41, 42, 43] → w'.1 c = w.1 c) ∧ w'.2.1 = w.2.1) ∨
       ((rAll (w.1 (17 + 2 * t + 1)) m 81 0 dNil).1 = -9 ∧ r = nI (dJ (rAll (w.1 (17 + 2 * t + 1)) m 81 0 dNil).2) ∧ cHd w' 26 (rAll (w.1 (17 + 2 * t + 1)) m 81 0 dNil).2 ∧ cRe w' (rAll (w.1 (17 + 2 * t + 1)) m 81 0 dNil).2 ∧
        (w'.1 114 2 = 0 ∧ ∀ i, i ≠ 2 → w'.1 114 i = w.1 114 i) ∧ (w'.1 0 10 = 0 ∧ ∀ i, i ≠ 10 → w'.1 0 i = w.1 0 i) ∧ (∀ c, c ∉ oHd → w'.1 c = w.1 c) ∧ ∀ c, c ∉ [135, 136, 141, 142, 146] → w'.2.1 c = w.2.1 c))) := by
  have ok := rAll_ok (T := w.1 (17 + 2 * t + 1)) (m := m) 81 0 dNil dNil_ok
  refine zC_of (lo := [_, _]) kcX11_hands (Nat.le_of_ble_eq_true rfl) rfl (fun X hX hE => ?_)
  refine zk_iload_n hX dX11_hands_0 rfl ?_
  refine zk_S1i hX dX11_hands_1 kcX11_isText mlX11_153 smX11_isText rfl (s_X11_isText _) (Nat.le_of_ble_eq_true rfl) rfl ?_
  refine zk_if_neB (tgt := 9) hX dX11_hands_4 (by decide) (fun c4 => ?_) (fun c4 => ?_)
  rotate_left
  · exact absurd (zrlt ht) c4
  refine zk_aload_n hX dX11_hands_9 rfl ?_
  refine zk_getR hX dX11_hands_10 flX11_25 k_0 z_0 (hw _ _ (by decide) |>.trans r_0_2) ?_
  refine zk_iload_n hX dX11_hands_13 rfl ?_
  refine zk_texts hX hw dX11_hands_14 rfl (by first | assumption | omega) ?_
  refine zk_V0i hX dX11_hands_15 kcX8_isThere mlX11_119 viX8_isThere rfl (zRwT0 (by first | assumption | omega)) (zRw_t _ (by first | assumption | omega)).2.1 (s_X8_isThere (zRwT ht)) (Nat.le_of_ble_eq_true rfl) rfl ?_
  refine zk_if_neB (tgt := 30) hX dX11_hands_18 (by decide) (fun c18 => ?_) (fun c18 => ?_)
  rotate_left
  · exact absurd (by rw [hS]; exact nI_pos' (by omega)) c18
  refine zk_aload_n hX dX11_hands_30 rfl ?_
  refine zk_getR hX dX11_hands_31 flX11_31 k_0 z_0 (hw _ _ (by decide) |>.trans r_0_3) ?_
  refine zk_aload_n hX dX11_hands_34 rfl ?_
  refine zk_getR hX dX11_hands_35 flX11_25 k_0 z_0 (hw _ _ (by decide) |>.trans r_0_2) ?_
  refine zk_iload_n hX dX11_hands_38 rfl ?_
  refine zk_texts hX hw dX11_hands_39 rfl (by first | assumption | omega) ?_
  refine zk_aload_n hX dX11_hands_40 rfl ?_
  refine zk_getR hX dX11_hands_41 flX11_42 k_0 z_0 (hw _ _ (by decide) |>.trans r_0_5) ?_
  refine zk_V2ip hX dX11_hands_44 kcX7_read mlX11_156 viX7_read rfl k_25 z_25 (s_X7_read hw (zRwT ht) (by omega) (Or.inr rfl) hm hS) (Nat.le_of_ble_eq_true rfl) rfl (fun r w2 q2 => ?_)
  obtain ⟨hw2, k1, k2, rfl, k3⟩ := q2
  have eT : w2.1 (17 + 2 * t + 1) = w.1 (17 + 2 * t + 1) := k1 _ (by simp; omega)
  have eS : w2.1 (17 + 2 * t) 0 = nI m := (congrFun (k1 _ (by simp; omega)) 0).trans hS
  have cr := s_X7_read (G := G) hw2 (zRwT ht) (by omega) (Or.inl rfl) hm eS
  rw [eT] at cr
  refine zk_bipush (v := -9) hX dX11_hands_47 (by decide) ?_
  refine zk_icmp_eq (tgt := 55) hX dX11_hands_49 (by decide) (fun c49 => ?_) (fun c49 => ?_)
  · refine zk_aload_n hX dX11_hands_55 rfl ?_
    refine zk_getR hX dX11_hands_56 flX11_31 k_0 z_0 (hw2 _ _ (by decide) |>.trans r_0_3) ?_
    refine zk_aload_n hX dX11_hands_59 rfl ?_
    refine zk_getR hX dX11_hands_60 flX11_25 k_0 z_0 (hw2 _ _ (by decide) |>.trans r_0_2) ?_
    refine zk_iload_n hX dX11_hands_63 rfl ?_
    refine zk_texts hX hw2 dX11_hands_64 rfl (by first | assumption | omega) ?_
    refine zk_aload_n hX dX11_hands_65 rfl ?_
    refine zk_getR hX dX11_hands_66 flX11_38 k_0 z_0 (hw2 _ _ (by decide) |>.trans r_0_4) ?_
    refine zk_V2ip hX dX11_hands_69 kcX7_read mlX11_156 viX7_read rfl k_25 z_25 cr (Nat.le_of_ble_eq_true rfl) rfl (fun r3 w3 q3 => ?_)
    obtain ⟨hw3, j1, j2, rfl, j3⟩ := q3
    have hH3 := j3 (by first | exact c49 | exact Decidable.not_not.mp c49)
    refine zk_pop hX dX11_hands_72 rfl ?_
    refine zk_aload_n hX dX11_hands_73 rfl ?_
    refine zk_iconst (v := 0) hX dX11_hands_74 (by decide) ?_
    refine zk_V1vp hX dX11_hands_75 kcX11_dropPoses mlX11_160 viX11_dropPoses rfl k_0 z_0 (s_X11_dropPoses hw3 (m := c) hc (by rw [j1 114 (by decide), k1 114 (by decide)]; exact h4) _) (Nat.le_of_ble_eq_true rfl) rfl (fun w4 q4 => ?_)
    obtain ⟨w5, hD5, rfl⟩ := q4
    have hw4 : zWf (zsi (zsi w5 114 2 (nI (zkept (w3.1 125) 0 c))) 0 10 0) := zWf_i (zWf_i (zWf_of hw3 (by rw [hD5.1])))
    refine zk_aload_n hX dX11_hands_78 rfl ?_
    refine zk_getR hX dX11_hands_79 flX11_83 k_0 z_0 (hw4 _ _ (by decide) |>.trans r_0_13) ?_
    refine zk_aload_n hX dX11_hands_82 rfl ?_
    refine zk_getR hX dX11_hands_83 flX11_38 k_0 z_0 (hw4 _ _ (by decide) |>.trans r_0_4) ?_
    refine zk_V1vp hX dX11_hands_86 kcX6_learn mlX11_163 viX6_learn rfl k_131 z_131 (s_X6_learn hw4 (cHd_o hH3 (fun a h1 h2 => by rw [zsi_o (by omega), zsi_o (by omega), hD5.2.1 a (by omega) (by omega) (by omega)])) ok) (Nat.le_of_ble_eq_true rfl) rfl (fun w6 q6 => ?_)
    obtain ⟨hF6, hR6⟩ := q6
    have hw6 := zFr_wf hF6 hw4
    refine zk_aload_n hX dX11_hands_89 rfl ?_
    refine zk_getR hX dX11_hands_90 flX11_38 k_0 z_0 (hw6 _ _ (by decide) |>.trans r_0_4) ?_
    refine zk_getI hX dX11_hands_93 flX11_167 k_26 z_26 ?_
    refine zk_iret hX hE rfl ⟨rfl, rfl⟩ dX11_hands_96 ⟨_, rfl, ?_⟩
    have ek : zkept (w3.1 125) 0 c = 0 := zkept_z c (fun q hq => by rw [j1 125 (by decide), k1 125 (by decide)]; exact h5 q hq)
    have hH6 : cHd w6 26 (rAll (w.1 (17 + 2 * t + 1)) m 81 0 dNil).2 := cHd_o hH3 (fun a h1 h2 => by rw [zFr_all' hF6 (by simp; omega), zsi_o (by omega), zsi_o (by omega), hD5.2.1 a (by omega) (by omega) (by omega)])
    refine ⟨hw6, Or.inr ⟨(by first | exact c49 | exact Decidable.not_not.mp c49), hH6.1.2.2, hH6, hR6, ⟨?_, fun i hi => ?_⟩, ⟨?_, fun i hi => ?_⟩, fun a ha => ?_, fun a ha => ?_⟩⟩
    · rw [zFr_all' hF6 (by decide), zsi_o (by decide), zsi_1, if_pos ⟨rfl, rfl⟩, ek]
      rfl
    · rw [zFr_all' hF6 (by decide), zsi_o (by decide), zsi_1, if_neg (fun q => hi q.2), hD5.2.1 114 (by decide) (by decide) (by decide), j1 114 (by decide), k1 114 (by decide)]
    · rw [zFr_all' hF6 (by decide), zsi_1, if_pos ⟨rfl, rfl⟩]
    · rw [zFr_all' hF6 (by decide), zsi_1, if_neg (fun q => hi q.2), zsi_o (by decide), hD5.2.1 0 (by decide) (by decide) (by decide), j1 0 (by decide), k1 0 (by decide)]
    · simp only [oHd, List.mem_cons, List.not_mem_nil, or_false, not_or] at ha
      rw [zFr_all' hF6 (by simp; omega), zsi_o (by omega), zsi_o (by omega), hD5.2.1 a (by omega) (by omega) (by omega), j1 a (by simp; omega), k1 a (by simp; omega)]
    · rw [hF6.2.2.1 a ha]
      show w5.2.1 a = w.2.1 a
      rw [hD5.1, j2, k2]
  · refine zk_bipush (v := -4) hX dX11_hands_52 (by decide) ?_
    refine zk_iret hX hE rfl ⟨rfl, rfl⟩ dX11_hands_54 ⟨_, rfl, ?_⟩
    exact ⟨hw2, Or.inl ⟨by first | exact c49 | exact Decidable.not_not.mp c49, rfl, k1, k2⟩⟩
theorem mHd_cp {w w' : zW} {k : Nat} {D : zD} (hD : zDok D) (h : rdH w k D) (e1 : w'.1 166 10 = nI (dW D)) (e2 : w'.1 166 11 = nI (dF D)) (e3 : w'.1 166 12 = nI (dJ D)) (e4 : ∀ q, q < 2 → w'.1 173 q = w.1 176 q) (e5 : ∀ q, q < 24 → w'.1 174 q = w.1 177 q) (e6 : ∀ q, q < 18 → w'.1 175 q = w.1 178 q) : mHd w' D := by
  have h1 := hD.1
  refine ⟨⟨e1, e2, e3⟩, fun a ha => by rw [e4 a (by omega)]; exact h.2.1 a ha, fun f hf => ?_, fun j hj => ?_⟩
  · rw [e5 _ (by omega), e5 _ (by omega), e5 _ (by omega), e5 _ (by omega)]
    exact h.2.2.1 f hf
  · rw [e6 _ (by omega), e6 _ (by omega), e6 _ (by omega)]
    exact h.2.2.2 j hj
theorem s_X12_hands_bad {G : zG} {w : zW} (t : Int32) (h : ¬ (0 ≤ t ∧ t ≤ 3)) : zEi G mX12_hands [.ref 166, .int t] w (-1) w := by
  refine zC_of (lo := [_, _, _]) kcX12_hands (Nat.le_of_ble_eq_true rfl) rfl (fun X hX hE => ?_)
  refine zk_iload_n hX dX12_hands_0 rfl ?_
  refine zk_S1i hX dX12_hands_1 kcX12_isText mlX12_156 smX12_isText rfl (s_X12_isText _) (Nat.le_of_ble_eq_true rfl) rfl ?_
  refine zk_if_neB (tgt := 9) hX dX12_hands_4 (by decide) (fun c4 => ?_) (fun c4 => ?_)
  · exact absurd c4 h
  refine zk_iconst (v := -1) hX dX12_hands_7 (by decide) ?_
  refine zk_iret hX hE rfl ⟨rfl, rfl⟩ dX12_hands_8 ⟨_, rfl, ?_⟩
  exact ⟨rfl, rfl⟩
theorem s_X12_hands_m {G : zG} {w : zW} {t : Nat} (hw : zWf w) (ht : t < 4) (hS : w.1 171 t < 0) : zEi G mX12_hands [.ref 166, .int (nI t)] w (-3) (mfind w 1) := by
  refine zC_of (lo := [_, _, _]) kcX12_hands (Nat.le_of_ble_eq_true rfl) rfl (fun X hX hE => ?_)
  refine zk_iload_n hX dX12_hands_0 rfl ?_
  refine zk_S1i hX dX12_hands_1 kcX12_isText mlX12_156 smX12_isText rfl (s_X12_isText _) (Nat.le_of_ble_eq_true rfl) rfl ?_
  refine zk_if_neB (tgt := 9) hX dX12_hands_4 (by decide) (fun c4 => ?_) (fun c4 => ?_)
  rotate_left
  · exact absurd (zrle (n := 3) (by omega)) c4
  refine zk_aload_n hX dX12_hands_9 rfl ?_
  refine zk_getR hX dX12_hands_10 flX12_22 k_166 z_166 (hw _ _ (by decide) |>.trans r_166_8) ?_
  refine zk_iload_n hX dX12_hands_13 rfl ?_
  refine zk_ialdE hX dX12_hands_14 rfl k_171 z_171 (by first | assumption | omega) rfl ?_
  refine zk_if_ge (tgt := 24) hX dX12_hands_15 (by decide) (fun c15 => ?_) (fun c15 => ?_)
  · exact absurd c15 (by grind)
  refine zk_aload_n hX dX12_hands_18 rfl ?_
  refine zk_iconst (v := 1) hX dX12_hands_19 (by decide) ?_
  refine zk_V1i hX dX12_hands_20 kcX12_meets mlX12_145 viX12_meets rfl k_166 z_166 (s_X12_meets hw _ (by decide)) (Nat.le_of_ble_eq_true rfl) rfl ?_
  refine zk_iret hX hE rfl ⟨rfl, rfl⟩ dX12_hands_23 ⟨_, rfl, ?_⟩
  exact ⟨rfl, rfl⟩
def oMd : List Nat := [173, 174, 175, 176, 177, 178]
theorem s_X12_hands {G : zG} {w : zW} {t m : Nat} (hw : zWf w) (ht : t < 4) (hm : m ≤ 80) (hS : w.1 171 t = nI m) :
    zCi G mX12_hands [.ref 166, .int (nI t)] w (fun r w' =>
      (¬ (rAll (mT w t) m 81 0 dNil).1 = -9 ∧ r = -4 ∧ zFr [176, 177, 178] [] [16, 17, 18, 19, 20] w w') ∨
       ((rAll (mT w t) m 81 0 dNil).1 = -9 ∧ r = nI (dJ (rAll (mT w t) m 81 0 dNil).2) ∧ mHd w' (rAll (mT w t) m 81 0 dNil).2 ∧ w'.1 166 33 = 0 ∧ w'.1 166 55 = 0 ∧ zFr oMd [] [10, 11, 12, 16, 17, 18, 19, 20, 33, 55] w w')) := by
  have ok := rAll_ok (T := mT w t) (m := m) 81 0 dNil dNil_ok
  refine zC_of (lo := [_, _, _]) kcX12_hands (Nat.le_of_ble_eq_true rfl) rfl (fun X hX hE => ?_)
  have loop : ∀ n i w1 w2, i + n = 24 → zFr [176, 177, 178] [] [16, 17, 18, 19, 20] w w2 → (rAll (mT w t) m 81 0 dNil).1 = -9 → rdH w2 (dF (rAll (mT w t) m 81 0 dNil).2) (rAll (mT w t) m 81 0 dNil).2 → zFr [173, 174, 175] [] [10, 11, 12] w2 w1 → (w1.1 166 10 = nI (dW (rAll (mT w t) m 81 0 dNil).2) ∧ w1.1 166 11 = nI (dF (rAll (mT w t) m 81 0 dNil).2) ∧ w1.1 166 12 = nI (dJ (rAll (mT w t) m 81 0 dNil).2)) → (∀ q, q < i → w1.1 174 q = w2.1 177 q ∧ (q < 18 → w1.1 175 q = w2.1 178 q) ∧ (q < 2 → w1.1 173 q = w2.1 176 q)) → zk0 G X mX12_hands 63 [.ref 166, .int (nI t), .int (nI i)] [] w1 := by
    intro n
    induction n with
    | zero =>
      intro i w1 w2 hi hF hr hR2 hF1 he hc
      have hw1 := zFr_wf hF1 (zFr_wf hF hw)
      refine zk_iload_n hX dX12_hands_63 rfl ?_
      refine zk_bipush (v := 24) hX dX12_hands_64 (by decide) ?_
      refine zk_icmp_ge (tgt := 122) hX dX12_hands_66 (by decide) (fun c66 => ?_) (fun c66 => ?_)
      rotate_left
      · exact absurd (nI_le (a := 24) (by omega) (by omega)) c66
      refine zk_aload_n hX dX12_hands_122 rfl ?_
      refine zk_iconst (v := 0) hX dX12_hands_123 (by decide) ?_
      refine zk_putI hX dX12_hands_124 plX12_202 (fun h => by cases h) k_166 z_166 rfl rfl ?_
      refine zk_aload_n hX dX12_hands_127 rfl ?_
      refine zk_iconst (v := 0) hX dX12_hands_128 (by decide) ?_
      refine zk_putI hX dX12_hands_129 plX12_205 (fun h => by cases h) k_166 z_166 rfl rfl ?_
      refine zk_aload_n hX dX12_hands_132 rfl ?_
      refine zk_getI hX dX12_hands_133 flX12_199 k_166 z_166 ?_
      rw [zsi_1, if_neg (by omega), zsi_1, if_neg (by omega), he.2.2]
      refine zk_iret hX hE rfl ⟨rfl, rfl⟩ dX12_hands_136 ⟨_, rfl, ?_⟩
      refine Or.inr ⟨hr, rfl, mHd_cp ok hR2 ?_ ?_ ?_ ?_ ?_ ?_, ?_, ?_, ?_⟩
      · rw [zsi_1, if_neg (by omega), zsi_1, if_neg (by omega), he.1]
      · rw [zsi_1, if_neg (by omega), zsi_1, if_neg (by omega), he.2.1]
      · rw [zsi_1, if_neg (by omega), zsi_1, if_neg (by omega), he.2.2]
      · intro q hq
        rw [zsi_o (by decide), zsi_o (by decide)]
        exact (hc q (by omega)).2.2 hq
      · intro q hq
        rw [zsi_o (by decide), zsi_o (by decide)]
        exact (hc q (by omega)).1
      · intro q hq
        rw [zsi_o (by decide), zsi_o (by decide)]
        exact (hc q (by omega)).2.1 hq
      · rw [zsi_1, if_neg (by omega), zsi_1, if_pos ⟨rfl, rfl⟩]
      · rw [zsi_1, if_pos ⟨rfl, rfl⟩]
      · exact zFr_t (zFr_t (zFr_s hF (by decide)) (zFr_s hF1 (by decide))) (zFr_t (zFr_m (by decide)) (zFr_m (by decide)))
    | succ n ih =>
      intro i w1 w2 hi hF hr hR2 hF1 he hc
      have hw1 := zFr_wf hF1 (zFr_wf hF hw)
      have e7 : w1.1 177 = w2.1 177 := hF1.2.1 177 (by decide) (by decide)
      have e8 : w1.1 178 = w2.1 178 := hF1.2.1 178 (by decide) (by decide)
      have e6 : w1.1 176 = w2.1 176 := hF1.2.1 176 (by decide) (by decide)
      refine zk_iload_n hX dX12_hands_63 rfl ?_
      refine zk_bipush (v := 24) hX dX12_hands_64 (by decide) ?_
      refine zk_icmp_ge (tgt := 122) hX dX12_hands_66 (by decide) (fun c66 => ?_) (fun c66 => ?_)
      · exact absurd c66 (nI_ge (b := 24) (by omega) (by decide))
      refine zk_aload_n hX dX12_hands_69 rfl ?_
      refine zk_getR hX dX12_hands_70 flX12_32 k_166 z_166 (hw1 _ _ (by decide) |>.trans r_166_14) ?_
      refine zk_iload_n hX dX12_hands_73 rfl ?_
      refine zk_aload_n hX dX12_hands_74 rfl ?_
      refine zk_getR hX dX12_hands_75 flX12_41 k_166 z_166 (hw1 _ _ (by decide) |>.trans r_166_22) ?_
      refine zk_iload_n hX dX12_hands_78 rfl ?_
      refine zk_ialdE hX dX12_hands_79 rfl k_177 z_177 (by first | assumption | omega) rfl ?_
      refine zk_iastE hX dX12_hands_80 rfl k_174 z_174 (by first | assumption | omega) rfl ?_
      refine zk_iload_n hX dX12_hands_81 rfl ?_
      refine zk_bipush (v := 18) hX dX12_hands_82 (by decide) ?_
      refine zk_icmp_ge (tgt := 99) hX dX12_hands_84 (by decide) (fun c84 => ?_) (fun c84 => ?_)
      · refine zk_iload_n hX dX12_hands_99 rfl ?_
        refine zk_iconst (v := 2) hX dX12_hands_100 (by decide) ?_
        refine zk_icmp_ge (tgt := 116) hX dX12_hands_101 (by decide) (fun c101 => ?_) (fun c101 => ?_)
        · refine zk_iinc (lo' := [_, _, _]) hX dX12_hands_116 rfl (by first | exact zinc _ | exact rfl) (Nat.le_of_ble_eq_true rfl) rfl rfl ?_
          refine zk_goto (tgt := 63) hX dX12_hands_119 (by decide) ?_
          refine ih (i + 1) _ w2 (by omega) hF hr hR2 ?_ ?_ ?_
          · first
              | exact zFr_t hF1 (zFr_i (by decide) (by decide))
              | exact zFr_t hF1 (zFr_t (zFr_i (by decide) (by decide)) (zFr_i (by decide) (by decide)))
              | exact zFr_t hF1 (zFr_t (zFr_t (zFr_i (by decide) (by decide)) (zFr_i (by decide) (by decide))) (zFr_i (by decide) (by decide)))
          · repeat rw [zsi_o (a := 166) (by decide)]
            exact he
          · intro q hq
            rcases Nat.lt_succ_iff_lt_or_eq.mp hq with g | g
            · have g3 : q ≠ i := by omega
              have hcq := hc q g
              refine ⟨?_, fun h18' => ?_, fun h2' => ?_⟩
              · simp [zsi_1, g3]
                exact hcq.1
              · simp [zsi_1, g3]
                exact hcq.2.1 h18'
              · simp [zsi_1, g3]
                exact hcq.2.2 h2'
            · subst g
              refine ⟨?_, fun h18' => ?_, fun h2' => ?_⟩
              · simp [zsi_1, e7]
              · first
                  | exact absurd (nI_leD (a := 18) c84) (by omega)
                  | simp [zsi_1, e8]
              · first
                  | exact absurd (nI_leD (a := 2) c101) (by omega)
                  | simp [zsi_1, e6]
        · have h2 : i < 2 := by
            have := nI_ltD (a := 2) (y := i) c101
            omega
          refine zk_aload_n hX dX12_hands_104 rfl ?_
          refine zk_getR hX dX12_hands_105 flX12_29 k_166 z_166 (hw1 _ _ (by decide) |>.trans r_166_13) ?_
          refine zk_iload_n hX dX12_hands_108 rfl ?_
          refine zk_aload_n hX dX12_hands_109 rfl ?_
          refine zk_getR hX dX12_hands_110 flX12_38 k_166 z_166 (hw1 _ _ (by decide) |>.trans r_166_21) ?_
          refine zk_iload_n hX dX12_hands_113 rfl ?_
          refine zk_ialdE hX dX12_hands_114 rfl k_176 z_176 (by first | assumption | omega) rfl ?_
          refine zk_iastE hX dX12_hands_115 rfl k_173 z_173 (by first | assumption | omega) rfl ?_
          refine zk_iinc (lo' := [_, _, _]) hX dX12_hands_116 rfl (by first | exact zinc _ | exact rfl) (Nat.le_of_ble_eq_true rfl) rfl rfl ?_
          refine zk_goto (tgt := 63) hX dX12_hands_119 (by decide) ?_
          refine ih (i + 1) _ w2 (by omega) hF hr hR2 ?_ ?_ ?_
          · first
              | exact zFr_t hF1 (zFr_i (by decide) (by decide))
              | exact zFr_t hF1 (zFr_t (zFr_i (by decide) (by decide)) (zFr_i (by decide) (by decide)))
              | exact zFr_t hF1 (zFr_t (zFr_t (zFr_i (by decide) (by decide)) (zFr_i (by decide) (by decide))) (zFr_i (by decide) (by decide)))
          · repeat rw [zsi_o (a := 166) (by decide)]
            exact he
          · intro q hq
            rcases Nat.lt_succ_iff_lt_or_eq.mp hq with g | g
            · have g3 : q ≠ i := by omega
              have hcq := hc q g
              refine ⟨?_, fun h18' => ?_, fun h2' => ?_⟩
              · simp [zsi_1, g3]
                exact hcq.1
              · simp [zsi_1, g3]
                exact hcq.2.1 h18'
              · simp [zsi_1, g3]
                exact hcq.2.2 h2'
            · subst g
              refine ⟨?_, fun h18' => ?_, fun h2' => ?_⟩
              · simp [zsi_1, e7]
              · first
                  | exact absurd (nI_leD (a := 18) c84) (by omega)
                  | simp [zsi_1, e8]
              · first
                  | exact absurd (nI_leD (a := 2) c101) (by omega)
                  | simp [zsi_1, e6]
      · have h18 : i < 18 := by
          have := nI_ltD (a := 18) (y := i) c84
          omega
        refine zk_aload_n hX dX12_hands_87 rfl ?_
        refine zk_getR hX dX12_hands_88 flX12_35 k_166 z_166 (hw1 _ _ (by decide) |>.trans r_166_15) ?_
        refine zk_iload_n hX dX12_hands_91 rfl ?_
        refine zk_aload_n hX dX12_hands_92 rfl ?_
        refine zk_getR hX dX12_hands_93 flX12_44 k_166 z_166 (hw1 _ _ (by decide) |>.trans r_166_23) ?_
        refine zk_iload_n hX dX12_hands_96 rfl ?_
        refine zk_ialdE hX dX12_hands_97 rfl k_178 z_178 (by first | assumption | omega) rfl ?_
        refine zk_iastE hX dX12_hands_98 rfl k_175 z_175 (by first | assumption | omega) rfl ?_
        refine zk_iload_n hX dX12_hands_99 rfl ?_
        refine zk_iconst (v := 2) hX dX12_hands_100 (by decide) ?_
        refine zk_icmp_ge (tgt := 116) hX dX12_hands_101 (by decide) (fun c101 => ?_) (fun c101 => ?_)
        · refine zk_iinc (lo' := [_, _, _]) hX dX12_hands_116 rfl (by first | exact zinc _ | exact rfl) (Nat.le_of_ble_eq_true rfl) rfl rfl ?_
          refine zk_goto (tgt := 63) hX dX12_hands_119 (by decide) ?_
          refine ih (i + 1) _ w2 (by omega) hF hr hR2 ?_ ?_ ?_
          · first
              | exact zFr_t hF1 (zFr_i (by decide) (by decide))
              | exact zFr_t hF1 (zFr_t (zFr_i (by decide) (by decide)) (zFr_i (by decide) (by decide)))
              | exact zFr_t hF1 (zFr_t (zFr_t (zFr_i (by decide) (by decide)) (zFr_i (by decide) (by decide))) (zFr_i (by decide) (by decide)))
          · repeat rw [zsi_o (a := 166) (by decide)]
            exact he
          · intro q hq
            rcases Nat.lt_succ_iff_lt_or_eq.mp hq with g | g
            · have g3 : q ≠ i := by omega
              have hcq := hc q g
              refine ⟨?_, fun h18' => ?_, fun h2' => ?_⟩
              · simp [zsi_1, g3]
                exact hcq.1
              · simp [zsi_1, g3]
                exact hcq.2.1 h18'
              · simp [zsi_1, g3]
                exact hcq.2.2 h2'
            · subst g
              refine ⟨?_, fun h18' => ?_, fun h2' => ?_⟩
              · simp [zsi_1, e7]
              · first
                  | exact absurd (nI_leD (a := 18) c84) (by omega)
                  | simp [zsi_1, e8]
              · first
                  | exact absurd (nI_leD (a := 2) c101) (by omega)
                  | simp [zsi_1, e6]
        · have h2 : i < 2 := by
            have := nI_ltD (a := 2) (y := i) c101
            omega
          refine zk_aload_n hX dX12_hands_104 rfl ?_
          refine zk_getR hX dX12_hands_105 flX12_29 k_166 z_166 (hw1 _ _ (by decide) |>.trans r_166_13) ?_
          refine zk_iload_n hX dX12_hands_108 rfl ?_
          refine zk_aload_n hX dX12_hands_109 rfl ?_
          refine zk_getR hX dX12_hands_110 flX12_38 k_166 z_166 (hw1 _ _ (by decide) |>.trans r_166_21) ?_
          refine zk_iload_n hX dX12_hands_113 rfl ?_
          refine zk_ialdE hX dX12_hands_114 rfl k_176 z_176 (by first | assumption | omega) rfl ?_
          refine zk_iastE hX dX12_hands_115 rfl k_173 z_173 (by first | assumption | omega) rfl ?_
          refine zk_iinc (lo' := [_, _, _]) hX dX12_hands_116 rfl (by first | exact zinc _ | exact rfl) (Nat.le_of_ble_eq_true rfl) rfl rfl ?_
          refine zk_goto (tgt := 63) hX dX12_hands_119 (by decide) ?_
          refine ih (i + 1) _ w2 (by omega) hF hr hR2 ?_ ?_ ?_
          · first
              | exact zFr_t hF1 (zFr_i (by decide) (by decide))
              | exact zFr_t hF1 (zFr_t (zFr_i (by decide) (by decide)) (zFr_i (by decide) (by decide)))
              | exact zFr_t hF1 (zFr_t (zFr_t (zFr_i (by decide) (by decide)) (zFr_i (by decide) (by decide))) (zFr_i (by decide) (by decide)))
          · repeat rw [zsi_o (a := 166) (by decide)]
            exact he
          · intro q hq
            rcases Nat.lt_succ_iff_lt_or_eq.mp hq with g | g
            · have g3 : q ≠ i := by omega
              have hcq := hc q g
              refine ⟨?_, fun h18' => ?_, fun h2' => ?_⟩
              · simp [zsi_1, g3]
                exact hcq.1
              · simp [zsi_1, g3]
                exact hcq.2.1 h18'
              · simp [zsi_1, g3]
                exact hcq.2.2 h2'
            · subst g
              refine ⟨?_, fun h18' => ?_, fun h2' => ?_⟩
              · simp [zsi_1, e7]
              · first
                  | exact absurd (nI_leD (a := 18) c84) (by omega)
                  | simp [zsi_1, e8]
              · first
                  | exact absurd (nI_leD (a := 2) c101) (by omega)
                  | simp [zsi_1, e6]
  refine zk_iload_n hX dX12_hands_0 rfl ?_
  refine zk_S1i hX dX12_hands_1 kcX12_isText mlX12_156 smX12_isText rfl (s_X12_isText _) (Nat.le_of_ble_eq_true rfl) rfl ?_
  refine zk_if_neB (tgt := 9) hX dX12_hands_4 (by decide) (fun c4 => ?_) (fun c4 => ?_)
  rotate_left
  · exact absurd (zrle (n := 3) (by omega)) c4
  refine zk_aload_n hX dX12_hands_9 rfl ?_
  refine zk_getR hX dX12_hands_10 flX12_22 k_166 z_166 (hw _ _ (by decide) |>.trans r_166_8) ?_
  refine zk_iload_n hX dX12_hands_13 rfl ?_
  refine zk_ialdE hX dX12_hands_14 rfl k_171 z_171 (by first | assumption | omega) rfl ?_
  rw [hS]
  refine zk_if_ge (tgt := 24) hX dX12_hands_15 (by decide) (fun c15 => ?_) (fun c15 => ?_)
  rotate_left
  · exact absurd (nI_pos' (by omega)) c15
  refine zk_aload_n hX dX12_hands_24 rfl ?_
  refine zk_iload_n hX dX12_hands_25 rfl ?_
  refine zk_V1ip hX dX12_hands_26 kcX12_faultOf mlX12_190 viX12_faultOf rfl k_166 z_166 (s_X12_faultOf hw ht hm hS) (Nat.le_of_ble_eq_true rfl) rfl (fun r w2 q2 => ?_)
  obtain ⟨k1, rfl, k2⟩ := q2
  have hw2 := zFr_wf k1 hw
  refine zk_bipush (v := -9) hX dX12_hands_29 (by decide) ?_
  refine zk_icmp_eq (tgt := 37) hX dX12_hands_31 (by decide) (fun c31 => ?_) (fun c31 => ?_)
  · refine zk_aload_n hX dX12_hands_37 rfl ?_
    refine zk_aload_n hX dX12_hands_38 rfl ?_
    refine zk_getI hX dX12_hands_39 flX12_168 k_166 z_166 ?_
    refine zk_putI hX dX12_hands_42 plX12_193 (fun h => by cases h) k_166 z_166 rfl rfl ?_
    refine zk_aload_n hX dX12_hands_45 rfl ?_
    refine zk_aload_n hX dX12_hands_46 rfl ?_
    refine zk_getI hX dX12_hands_47 flX12_174 k_166 z_166 ?_
    refine zk_putI hX dX12_hands_50 plX12_196 (fun h => by cases h) k_166 z_166 rfl rfl ?_
    refine zk_aload_n hX dX12_hands_53 rfl ?_
    refine zk_aload_n hX dX12_hands_54 rfl ?_
    refine zk_getI hX dX12_hands_55 flX12_181 k_166 z_166 ?_
    refine zk_putI hX dX12_hands_58 plX12_199 (fun h => by cases h) k_166 z_166 rfl rfl ?_
    refine zk_iconst (v := 0) hX dX12_hands_61 (by decide) ?_
    refine zk_istore_n (lo' := [_, _, _]) hX dX12_hands_62 (Nat.le_of_ble_eq_true rfl) rfl rfl ?_
    have hr : (rAll (mT w t) m 81 0 dNil).1 = -9 := by first | exact c31 | exact Decidable.not_not.mp c31
    have hR2 := k2 hr
    refine loop 24 0 _ w2 rfl k1 hr hR2 (zFr_t (zFr_t (zFr_m (by decide)) (zFr_m (by decide))) (zFr_m (by decide))) ⟨?_, ?_, ?_⟩ (fun q hq => absurd hq (by omega))
    · rw [zsi_1, if_neg (by omega), zsi_1, if_neg (by omega), zsi_1, if_pos ⟨rfl, rfl⟩]
      exact hR2.1.1
    · rw [zsi_1, if_neg (by omega), zsi_1, if_pos ⟨rfl, rfl⟩, zsi_1, if_neg (by omega)]
      exact hR2.1.2.1
    · rw [zsi_1, if_pos ⟨rfl, rfl⟩, zsi_1, if_neg (by omega), zsi_1, if_neg (by omega)]
      exact hR2.1.2.2
  · refine zk_bipush (v := -4) hX dX12_hands_34 (by decide) ?_
    refine zk_iret hX hE rfl ⟨rfl, rfl⟩ dX12_hands_36 ⟨_, rfl, ?_⟩
    exact Or.inl ⟨by first | exact c31 | exact Decidable.not_not.mp c31, rfl, k1⟩
