theorem rAll_ok {T : Nat → Int32} {m : Nat} : ∀ (n p : Nat) (D : zD), zDok D → zDok (rAll T m n p D).2
  | 0, p, D, hD => hD
  | n + 1, p, D, hD => by
    unfold rAll
    by_cases h : p < m
    · rw [if_pos h]
      have ok := rOne_ok (T := T) hD h
      by_cases h2 : (rOne T m p D).1 = true
      · rw [if_pos h2]
        exact rAll_ok n _ _ ok.1
      · rw [if_neg h2]
        exact ok.1
    · rw [if_neg h]
      exact hD
theorem zkept_z {f : Nat → Int32} : ∀ m, (∀ q, q < m → 0 ≤ f q) → zkept f 0 m = 0
  | 0, _ => rfl
  | m + 1, h => by
    rw [zkept_f (by have := h m (by omega); grind)]
    exact zkept_z m (fun q hq => h q (by omega))
theorem zFr_all' {A B : List Nat} {w w' : zW} (h : zFr A B [] w w') {c : Nat} (hc : c ∉ A) : w'.1 c = w.1 c := by
  by_cases e : c = 166
  · rw [e]
    exact funext (fun i => h.2.2.2 i (by simp))
  · exact h.2.1 c hc e
def oHd : List Nat := [0, 25, 26, 27, 28, 29, 30, 31, 32, 33, 34, 35, 36, 37, 38, 39, 40, 41, 42, 43, 114, 124, 125, 126, 131, 132, 133, 134, 139, 140, 145]
theorem s_X11_hands_bad {G : zG} {w : zW} (t : Int32) (h : ¬ (0 ≤ t ∧ t < 4)) : zEi G mX11_hands [.ref 0, .int t] w (-1) w := by
  refine zC_of (lo := [_, _]) kcX11_hands (Nat.le_of_ble_eq_true rfl) rfl (fun X hX hE => ?_)
  refine zk_iload_n hX dX11_hands_0 rfl ?_
  refine zk_S1i hX dX11_hands_1 kcX11_isText mlX11_153 smX11_isText rfl (s_X11_isText _) (Nat.le_of_ble_eq_true rfl) rfl ?_
  refine zk_if_neB (tgt := 9) hX dX11_hands_4 (by decide) (fun c4 => ?_) (fun c4 => ?_)
  · exact absurd c4 h
  refine zk_iconst (v := -1) hX dX11_hands_7 (by decide) ?_
  refine zk_iret hX hE rfl ⟨rfl, rfl⟩ dX11_hands_8 ⟨_, rfl, ?_⟩
  exact ⟨rfl, rfl⟩
theorem s_X11_hands_m {G : zG} {w : zW} {t : Nat} (hw : zWf w) (ht : t < 4) (hS : w.1 (17 + 2 * t) 0 < 0) : zEi G mX11_hands [.ref 0, .int (nI t)] w (-3) (zfind w 1) := by
  refine zC_of (lo := [_, _]) kcX11_hands (Nat.le_of_ble_eq_true rfl) rfl (fun X hX hE => ?_)
  refine zk_iload_n hX dX11_hands_0 rfl ?_
  refine zk_S1i hX dX11_hands_1 kcX11_isText mlX11_153 smX11_isText rfl (s_X11_isText _) (Nat.le_of_ble_eq_true rfl) rfl ?_
  refine zk_if_neB (tgt := 9) hX dX11_hands_4 (by decide) (fun c4 => ?_) (fun c4 => ?_)
  rotate_left
  · exact absurd (zrlt ht) c4
  refine zk_aload_n hX dX11_hands_9 rfl ?_
  refine zk_getR hX dX11_hands_10 flX11_25 k_0 z_0 (hw _ _ (by decide) |>.trans r_0_2) ?_
  refine zk_iload_n hX dX11_hands_13 rfl ?_
  refine zk_texts hX hw dX11_hands_14 rfl (by first | assumption | omega) ?_
  refine zk_V0i hX dX11_hands_15 kcX8_isThere mlX11_119 viX8_isThere rfl (zRwT0 (by first | assumption | omega)) (zRw_t _ (by first | assumption | omega)).2.1 (s_X8_isThere (zRwT ht)) (Nat.le_of_ble_eq_true rfl) rfl ?_
  refine zk_if_neB (tgt := 30) hX dX11_hands_18 (by decide) (fun c18 => ?_) (fun c18 => ?_)
  · exact absurd c18 (by grind)
  refine zk_aload_n hX dX11_hands_21 rfl ?_
  refine zk_getR hX dX11_hands_22 flX11_12 k_0 z_0 (hw _ _ (by decide) |>.trans r_0_0) ?_
  refine zk_iconst (v := 1) hX dX11_hands_25 (by decide) ?_
  refine zk_V1i hX dX11_hands_26 kcX9_find mlX11_111 viX9_find rfl k_1 z_1 (s_X9_find hw _ (by decide)) (Nat.le_of_ble_eq_true rfl) rfl ?_
  refine zk_iret hX hE rfl ⟨rfl, rfl⟩ dX11_hands_29 ⟨_, rfl, ?_⟩
  exact ⟨rfl, rfl⟩
theorem s_X11_hands {G : zG} {w : zW} {t m c : Nat} (hw : zWf w) (ht : t < 4) (hm : m ≤ 80) (hS : w.1 (17 + 2 * t) 0 = nI m) (hc : c ≤ 24) (h4 : w.1 114 2 = nI c) (h5 : ∀ q, q < c → 0 ≤ w.1 125 q) :
    zCi G mX11_hands [.ref 0, .int (nI t)] w (fun r w' => zWf w' ∧
      ((¬ (rAll (w.1 (17 + 2 * t + 1)) m 81 0 dNil).1 = -9 ∧ r = -4 ∧ (∀ c, c ∉ [25, 35, 36, 37, 38, 39, 40, 41, 42, 43] → w'.1 c = w.1 c) ∧ w'.2.1 = w.2.1) ∨
       ((rAll (w.1 (17 + 2 * t + 1)) m 81 0 dNil).1 = -9 ∧ r = nI (dJ (rAll (w.1 (17 + 2 * t + 1)) m 81 0 dNil).2) ∧ cHd w' 26 (rAll (w.1 (17 + 2 * t + 1)) m 81 0 dNil).2 ∧ cRe w' (rAll (w.1 (17 + 2 * t + 1)) m 81 0 dNil).2 ∧
        (w'.1 114 2 = 0 ∧ ∀ i, i ≠ 2 → w'.1 114 i = w.1 114 i) ∧ (w'.1 0 10 = 0 ∧ ∀ i, i ≠ 10 → w'.1 0 i = w.1 0 i) ∧ (∀ c, c ∉ oHd → w'.1 c = w.1 c) ∧ ∀ c, c ∉ [135, 136, 141, 142, 146] → w'.2.1 c = w.2.1 c))) := by
  have ok := rAll_ok (T := w.1 (17 + 2 * t + 1)) (m := m) 81 0 dNil dNil_ok
  refine zC_of (lo := [_, _]) kcX11_hands (Nat.le_of_ble_eq_true rfl) rfl (fun X hX hE => ?_)
  refine zk_iload_n hX dX11_hands_0 rfl ?_
  refine zk_S1i hX dX11_hands_1 kcX11_isText mlX11_153 smX11_isText rfl (s_X11_isText _) (Nat.le_of_ble_eq_true rfl) rfl ?_
  refine zk_if_neB (tgt := 9) hX dX11_hands_4 (by decide) (fun c4 => ?_) (fun c4 => ?_)
  rotate_left
  · exact absurd (zrlt ht) c4
  refine zk_aload_n hX dX11_hands_9 rfl ?_
  refine zk_getR hX dX11_hands_10 flX11_25 k_0 z_0 (hw _ _ (by decide) |>.trans r_0_2) ?_
  refine zk_iload_n hX dX11_hands_13 rfl ?_
  refine zk_texts hX hw dX11_hands_14 rfl (by first | assumption | omega) ?_
  refine zk_V0i hX dX11_hands_15 kcX8_isThere mlX11_119 viX8_isThere rfl (zRwT0 (by first | assumption | omega)) (zRw_t _ (by first | assumption | omega)).2.1 (s_X8_isThere (zRwT ht)) (Nat.le_of_ble_eq_true rfl) rfl ?_
  refine zk_if_neB (tgt := 30) hX dX11_hands_18 (by decide) (fun c18 => ?_) (fun c18 => ?_)
  rotate_left
  · exact absurd (by rw [hS]; exact nI_pos' (by omega)) c18
  refine zk_aload_n hX dX11_hands_30 rfl ?_
  refine zk_getR hX dX11_hands_31 flX11_31 k_0 z_0 (hw _ _ (by decide) |>.trans r_0_3) ?_
  refine zk_aload_n hX dX11_hands_34 rfl ?_
  refine zk_getR hX dX11_hands_35 flX11_25 k_0 z_0 (hw _ _ (by decide) |>.trans r_0_2) ?_
  refine zk_iload_n hX dX11_hands_38 rfl ?_
  refine zk_texts hX hw dX11_hands_39 rfl (by first | assumption | omega) ?_
  refine zk_aload_n hX dX11_hands_40 rfl ?_
  refine zk_getR hX dX11_hands_41 flX11_42 k_0 z_0 (hw _ _ (by decide) |>.trans r_0_5) ?_
  refine zk_V2ip hX dX11_hands_44 kcX7_read mlX11_156 viX7_read rfl k_25 z_25 (s_X7_read hw (zRwT ht) (by omega) (Or.inr rfl) hm hS) (Nat.le_of_ble_eq_true rfl) rfl (fun r w2 q2 => ?_)
  obtain ⟨hw2, k1, k2, rfl, k3⟩ := q2
  have eT : w2.1 (17 + 2 * t + 1) = w.1 (17 + 2 * t + 1) := k1 _ (by simp; omega)
  have eS : w2.1 (17 + 2 * t) 0 = nI m := (congrFun (k1 _ (by simp; omega)) 0).trans hS
  have cr := s_X7_read (G := G) hw2 (zRwT ht) (by omega) (Or.inl rfl) hm eS
  rw [eT] at cr
  refine zk_bipush (v := -9) hX dX11_hands_47 (by decide) ?_
  refine zk_icmp_eq (tgt := 55) hX dX11_hands_49 (by decide) (fun c49 => ?_) (fun c49 => ?_)
  · refine zk_aload_n hX dX11_hands_55 rfl ?_
    refine zk_getR hX dX11_hands_56 flX11_31 k_0 z_0 (hw2 _ _ (by decide) |>.trans r_0_3) ?_
    refine zk_aload_n hX dX11_hands_59 rfl ?_
    refine zk_getR hX dX11_hands_60 flX11_25 k_0 z_0 (hw2 _ _ (by decide) |>.trans r_0_2) ?_
    refine zk_iload_n hX dX11_hands_63 rfl ?_
    refine zk_texts hX hw2 dX11_hands_64 rfl (by first | assumption | omega) ?_
    refine zk_aload_n hX dX11_hands_65 rfl ?_
    refine zk_getR hX dX11_hands_66 flX11_38 k_0 z_0 (hw2 _ _ (by decide) |>.trans r_0_4) ?_
    refine zk_V2ip hX dX11_hands_69 kcX7_read mlX11_156 viX7_read rfl k_25 z_25 cr (Nat.le_of_ble_eq_true rfl) rfl (fun r3 w3 q3 => ?_)
    obtain ⟨hw3, j1, j2, rfl, j3⟩ := q3
    have hH3 := j3 (by first | exact c49 | exact Decidable.not_not.mp c49)
    refine zk_pop hX dX11_hands_72 rfl ?_
    refine zk_aload_n hX dX11_hands_73 rfl ?_
    refine zk_iconst (v := 0) hX dX11_hands_74 (by decide) ?_
    refine zk_V1vp hX dX11_hands_75 kcX11_dropPoses mlX11_160 viX11_dropPoses rfl k_0 z_0 (s_X11_dropPoses hw3 (m := c) hc (by rw [j1 114 (by decide), k1 114 (by decide)]; exact h4) _) (Nat.le_of_ble_eq_true rfl) rfl (fun w4 q4 => ?_)
    obtain ⟨w5, hD5, rfl⟩ := q4
    have hw4 : zWf (zsi (zsi w5 114 2 (nI (zkept (w3.1 125) 0 c))) 0 10 0) := zWf_i (zWf_i (zWf_of hw3 (by rw [hD5.1])))
    refine zk_aload_n hX dX11_hands_78 rfl ?_
    refine zk_getR hX dX11_hands_79 flX11_83 k_0 z_0 (hw4 _ _ (by decide) |>.trans r_0_13) ?_
    refine zk_aload_n hX dX11_hands_82 rfl ?_
    refine zk_getR hX dX11_hands_83 flX11_38 k_0 z_0 (hw4 _ _ (by decide) |>.trans r_0_4) ?_
    refine zk_V1vp hX dX11_hands_86 kcX6_learn mlX11_163 viX6_learn rfl k_131 z_131 (s_X6_learn hw4 (cHd_o hH3 (fun a h1 h2 => by rw [zsi_o (by omega), zsi_o (by omega), hD5.2.1 a (by omega) (by omega) (by omega)])) ok) (Nat.le_of_ble_eq_true rfl) rfl (fun w6 q6 => ?_)
    obtain ⟨hF6, hR6⟩ := q6
    have hw6 := zFr_wf hF6 hw4
    refine zk_aload_n hX dX11_hands_89 rfl ?_
    refine zk_getR hX dX11_hands_90 flX11_38 k_0 z_0 (hw6 _ _ (by decide) |>.trans r_0_4) ?_
    refine zk_getI hX dX11_hands_93 flX11_167 k_26 z_26 ?_
    refine zk_iret hX hE rfl ⟨rfl, rfl⟩ dX11_hands_96 ⟨_, rfl, ?_⟩
    have ek : zkept (w3.1 125) 0 c = 0 := zkept_z c (fun q hq => by rw [j1 125 (by decide), k1 125 (by decide)]; exact h5 q hq)
    have hH6 : cHd w6 26 (rAll (w.1 (17 + 2 * t + 1)) m 81 0 dNil).2 := cHd_o hH3 (fun a h1 h2 => by rw [zFr_all' hF6 (by simp; omega), zsi_o (by omega), zsi_o (by omega), hD5.2.1 a (by omega) (by omega) (by omega)])
    refine ⟨hw6, Or.inr ⟨(by first | exact c49 | exact Decidable.not_not.mp c49), hH6.1.2.2, hH6, hR6, ⟨?_, fun i hi => ?_⟩, ⟨?_, fun i hi => ?_⟩, fun a ha => ?_, fun a ha => ?_⟩⟩
    · rw [zFr_all' hF6 (by decide), zsi_o (by decide), zsi_1, if_pos ⟨rfl, rfl⟩, ek]
      rfl
    · rw [zFr_all' hF6 (by decide), zsi_o (by decide), zsi_1, if_neg (fun q => hi q.2), hD5.2.1 114 (by decide) (by decide) (by decide), j1 114 (by decide), k1 114 (by decide)]
    · rw [zFr_all' hF6 (by decide), zsi_1, if_pos ⟨rfl, rfl⟩]
    · rw [zFr_all' hF6 (by decide), zsi_1, if_neg (fun q => hi q.2), zsi_o (by decide), hD5.2.1 0 (by decide) (by decide) (by decide), j1 0 (by decide), k1 0 (by decide)]
    · simp only [oHd, List.mem_cons, List.not_mem_nil, or_false, not_or] at ha
      rw [zFr_all' hF6 (by simp; omega), zsi_o (by omega), zsi_o (by omega), hD5.2.1 a (by omega) (by omega) (by omega), j1 a (by simp; omega), k1 a (by simp; omega)]
    · rw [hF6.2.2.1 a ha]
      show w5.2.1 a = w.2.1 a
      rw [hD5.1, j2, k2]
  · refine zk_bipush (v := -4) hX dX11_hands_52 (by decide) ?_
    refine zk_iret hX hE rfl ⟨rfl, rfl⟩ dX11_hands_54 ⟨_, rfl, ?_⟩
    exact ⟨hw2, Or.inl ⟨by first | exact c49 | exact Decidable.not_not.mp c49, rfl, k1, k2⟩⟩
