theorem rOne_ne {T : Nat → Int32} {m p : Nat} {D : zD} (hD : zDok D) (hp : p < m) (hm : m ≤ 80) : ¬ nI (rOne T m p D).2.1 = (-9 : Int32) := by
  have h := (rOne_ok (T := T) hD hp).2.1
  have h0 : (0 : Int32) ≤ nI (rOne T m p D).2.1 := nI_pos' (by omega)
  intro q
  rw [q] at h0
  exact absurd h0 (by decide)
theorem s_X12_faultOf {G : zG} {w : zW} {t m : Nat} (hw : zWf w) (ht : t < 4) (hm : m ≤ 80) (hS : w.1 171 t = nI m) :
    zCi G mX12_faultOf [.ref 166, .int (nI t)] w (fun r w' => zFr [176, 177, 178] [] [16, 17, 18, 19, 20] w w' ∧ r = (rAll (mT w t) m 81 0 dNil).1 ∧ (r = -9 → rdH w' (dF (rAll (mT w t) m 81 0 dNil).2) (rAll (mT w t) m 81 0 dNil).2)) := by
  refine zC_of (lo := [_, _, _]) kcX12_faultOf (Nat.le_of_ble_eq_true rfl) rfl (fun X hX hE => ?_)
  have loop : ∀ n p D w1 v, m < p + n → zFr [176, 177, 178] [] [16, 17, 18, 19, 20] w w1 → mRd w1 t m p (dF D) D → zDok D → p ≤ m → rAll (mT w t) m 81 0 dNil = rAll (mT w t) m n p D → zk0 G X mX12_faultOf 20 [.ref 166, .int (nI t), v] [] w1 := by
    intro n
    induction n with
    | zero =>
      intro p D w1 v hi hF hR hD hp he
      exact absurd hp (by omega)
    | succ n ih =>
      intro p D w1 v hi hF hR hD hp he
      have hw1 := zFr_wf hF hw
      have eT : mT w1 t = mT w t := mT_f hF (by decide)
      have eA : rAll (mT w t) m (n + 1) p D = if p < m then (if (rOne (mT w t) m p D).1 = true then rAll (mT w t) m n (rOne (mT w t) m p D).2.1 (rOne (mT w t) m p D).2.2 else (nI (rOne (mT w t) m p D).2.1, (rOne (mT w t) m p D).2.2)) else (-9, D) := rfl
      by_cases hpm : p < m
      · have ok := rOne_ok (T := mT w t) hD hpm
        have hne := rOne_ne (T := mT w t) hD hpm hm
        have cb := s_X12_byteAt (G := G) hw1 ht hm (show p ≤ 80 by omega) hR.1
        rw [eT, show zbt (mT w t) m p = mT w t p from if_pos hpm] at cb
        have ch := s_X12_readsHand (G := G) hw1 ht hm hpm hD hR
        have cf := s_X12_readsFinger (G := G) hw1 ht hm hpm hD hR
        rw [eT] at ch cf
        have eO : rOne (mT w t) m p D = if mT w t p = 104 then rHand (mT w t) m p D else if mT w t p = 102 then rFin (mT w t) m p D else if mT w t p = 32 then (true, p + 1, D) else (false, p, D) := rfl
        rw [if_pos hpm] at eA
        by_cases h1 : mT w t p = 104
        · rw [if_pos h1] at eO
          rw [eO] at ok hne eA
          refine zk_aload_n hX dX12_faultOf_20 rfl ?_
          refine zk_getI hX dX12_faultOf_21 flX12_159 k_166 z_166 ?_
          rw [hR.2.1]
          refine zk_aload_n hX dX12_faultOf_24 rfl ?_
          refine zk_getR hX dX12_faultOf_25 flX12_22 k_166 z_166 (hw1 _ _ (by decide) |>.trans r_166_8) ?_
          refine zk_iload_n hX dX12_faultOf_28 rfl ?_
          refine zk_ialdE hX dX12_faultOf_29 rfl k_171 z_171 (by first | assumption | omega) rfl ?_
          rw [hR.1]
          refine zk_icmp_ge (tgt := 101) hX dX12_faultOf_30 (by decide) (fun c30 => ?_) (fun c30 => ?_)
          · exact absurd c30 (nI_ge hpm (by omega))
          refine zk_aload_n hX dX12_faultOf_33 rfl ?_
          refine zk_iload_n hX dX12_faultOf_34 rfl ?_
          refine zk_aload_n hX dX12_faultOf_35 rfl ?_
          refine zk_getI hX dX12_faultOf_36 flX12_159 k_166 z_166 ?_
          rw [hR.2.1]
          refine zk_V2i hX dX12_faultOf_39 kcX12_byteAt mlX12_162 viX12_byteAt rfl k_166 z_166 cb (Nat.le_of_ble_eq_true rfl) rfl ?_
          refine zk_istore_n (lo' := [_, _, _]) hX dX12_faultOf_42 (Nat.le_of_ble_eq_true rfl) rfl rfl ?_
          refine zk_iload_n hX dX12_faultOf_43 rfl ?_
          refine zk_bipush (v := 32) hX dX12_faultOf_44 (by decide) ?_
          refine zk_icmp_ne (tgt := 62) hX dX12_faultOf_46 (by decide) (fun c46 => ?_) (fun c46 => ?_)
          rotate_left
          · exact absurd (h1.symm.trans c46) (by decide)
          refine zk_iload_n hX dX12_faultOf_62 rfl ?_
          refine zk_bipush (v := 104) hX dX12_faultOf_63 (by decide) ?_
          refine zk_icmp_ne (tgt := 79) hX dX12_faultOf_65 (by decide) (fun c65 => ?_) (fun c65 => ?_)
          · exact absurd c65 (not_not_intro h1)
          refine zk_aload_n hX dX12_faultOf_68 rfl ?_
          refine zk_iload_n hX dX12_faultOf_69 rfl ?_
          refine zk_V1ip hX dX12_faultOf_70 kcX12_readsHand mlX12_184 viX12_readsHand rfl k_166 z_166 ch (Nat.le_of_ble_eq_true rfl) rfl (fun r w2 q2 => ?_)
          obtain ⟨rfl, k1, k2⟩ := q2
          refine zk_if_eqB (tgt := 93) hX dX12_faultOf_73 (by decide) (fun c73 => ?_) (fun c73 => ?_)
          · refine zk_aload_n hX dX12_faultOf_93 rfl ?_
            refine zk_getI hX dX12_faultOf_94 flX12_159 k_166 z_166 ?_
            rw [k2.2.1]
            refine zk_iret hX hE rfl ⟨rfl, rfl⟩ dX12_faultOf_97 ⟨_, rfl, ?_⟩
            rw [if_neg (by first | exact c73 | exact Decidable.not_not.mp c73)] at eA
            rw [he, eA]
            exact ⟨zFr_t hF k1, rfl, fun q => absurd q hne⟩
          · refine zk_goto (tgt := 98) hX dX12_faultOf_76 (by decide) ?_
            refine zk_goto (tgt := 20) hX dX12_faultOf_98 (by decide) ?_
            rw [if_pos (by first | exact c73 | exact Decidable.not_not.mp c73)] at eA
            exact ih _ _ w2 _ (by have := ok.2.2 (by first | exact c73 | exact Decidable.not_not.mp c73); omega) (zFr_t hF k1) k2 ok.1 ok.2.1 (he.trans eA)
        · rw [if_neg h1] at eO
          by_cases h2 : mT w t p = 102
          · rw [if_pos h2] at eO
            rw [eO] at ok hne eA
            refine zk_aload_n hX dX12_faultOf_20 rfl ?_
            refine zk_getI hX dX12_faultOf_21 flX12_159 k_166 z_166 ?_
            rw [hR.2.1]
            refine zk_aload_n hX dX12_faultOf_24 rfl ?_
            refine zk_getR hX dX12_faultOf_25 flX12_22 k_166 z_166 (hw1 _ _ (by decide) |>.trans r_166_8) ?_
            refine zk_iload_n hX dX12_faultOf_28 rfl ?_
            refine zk_ialdE hX dX12_faultOf_29 rfl k_171 z_171 (by first | assumption | omega) rfl ?_
            rw [hR.1]
            refine zk_icmp_ge (tgt := 101) hX dX12_faultOf_30 (by decide) (fun c30 => ?_) (fun c30 => ?_)
            · exact absurd c30 (nI_ge hpm (by omega))
            refine zk_aload_n hX dX12_faultOf_33 rfl ?_
            refine zk_iload_n hX dX12_faultOf_34 rfl ?_
            refine zk_aload_n hX dX12_faultOf_35 rfl ?_
            refine zk_getI hX dX12_faultOf_36 flX12_159 k_166 z_166 ?_
            rw [hR.2.1]
            refine zk_V2i hX dX12_faultOf_39 kcX12_byteAt mlX12_162 viX12_byteAt rfl k_166 z_166 cb (Nat.le_of_ble_eq_true rfl) rfl ?_
            refine zk_istore_n (lo' := [_, _, _]) hX dX12_faultOf_42 (Nat.le_of_ble_eq_true rfl) rfl rfl ?_
            refine zk_iload_n hX dX12_faultOf_43 rfl ?_
            refine zk_bipush (v := 32) hX dX12_faultOf_44 (by decide) ?_
            refine zk_icmp_ne (tgt := 62) hX dX12_faultOf_46 (by decide) (fun c46 => ?_) (fun c46 => ?_)
            rotate_left
            · exact absurd (h2.symm.trans c46) (by decide)
            refine zk_iload_n hX dX12_faultOf_62 rfl ?_
            refine zk_bipush (v := 104) hX dX12_faultOf_63 (by decide) ?_
            refine zk_icmp_ne (tgt := 79) hX dX12_faultOf_65 (by decide) (fun c65 => ?_) (fun c65 => ?_)
            rotate_left
            · exact absurd c65 h1
            refine zk_iload_n hX dX12_faultOf_79 rfl ?_
            refine zk_bipush (v := 102) hX dX12_faultOf_80 (by decide) ?_
            refine zk_icmp_ne (tgt := 93) hX dX12_faultOf_82 (by decide) (fun c82 => ?_) (fun c82 => ?_)
            · exact absurd c82 (not_not_intro h2)
            refine zk_aload_n hX dX12_faultOf_85 rfl ?_
            refine zk_iload_n hX dX12_faultOf_86 rfl ?_
            refine zk_V1ip hX dX12_faultOf_87 kcX12_readsFinger mlX12_187 viX12_readsFinger rfl k_166 z_166 cf (Nat.le_of_ble_eq_true rfl) rfl (fun r w2 q2 => ?_)
            obtain ⟨rfl, k1, k2, k3⟩ := q2
            refine zk_if_neB (tgt := 98) hX dX12_faultOf_90 (by decide) (fun c90 => ?_) (fun c90 => ?_)
            · refine zk_goto (tgt := 20) hX dX12_faultOf_98 (by decide) ?_
              rw [if_pos (by first | exact c90 | exact Decidable.not_not.mp c90)] at eA
              exact ih _ _ w2 _ (by have := ok.2.2 (by first | exact c90 | exact Decidable.not_not.mp c90); omega) (zFr_t hF k1) (k3 (by first | exact c90 | exact Decidable.not_not.mp c90)) ok.1 ok.2.1 (he.trans eA)
            · refine zk_aload_n hX dX12_faultOf_93 rfl ?_
              refine zk_getI hX dX12_faultOf_94 flX12_159 k_166 z_166 ?_
              rw [k2]
              refine zk_iret hX hE rfl ⟨rfl, rfl⟩ dX12_faultOf_97 ⟨_, rfl, ?_⟩
              rw [if_neg (by first | exact c90 | exact Decidable.not_not.mp c90)] at eA
              rw [he, eA]
              exact ⟨zFr_t hF k1, rfl, fun q => absurd q hne⟩
          · rw [if_neg h2] at eO
            by_cases h3 : mT w t p = 32
            · rw [if_pos h3] at eO
              rw [eO] at ok hne eA
              refine zk_aload_n hX dX12_faultOf_20 rfl ?_
              refine zk_getI hX dX12_faultOf_21 flX12_159 k_166 z_166 ?_
              rw [hR.2.1]
              refine zk_aload_n hX dX12_faultOf_24 rfl ?_
              refine zk_getR hX dX12_faultOf_25 flX12_22 k_166 z_166 (hw1 _ _ (by decide) |>.trans r_166_8) ?_
              refine zk_iload_n hX dX12_faultOf_28 rfl ?_
              refine zk_ialdE hX dX12_faultOf_29 rfl k_171 z_171 (by first | assumption | omega) rfl ?_
              rw [hR.1]
              refine zk_icmp_ge (tgt := 101) hX dX12_faultOf_30 (by decide) (fun c30 => ?_) (fun c30 => ?_)
              · exact absurd c30 (nI_ge hpm (by omega))
              refine zk_aload_n hX dX12_faultOf_33 rfl ?_
              refine zk_iload_n hX dX12_faultOf_34 rfl ?_
              refine zk_aload_n hX dX12_faultOf_35 rfl ?_
              refine zk_getI hX dX12_faultOf_36 flX12_159 k_166 z_166 ?_
              rw [hR.2.1]
              refine zk_V2i hX dX12_faultOf_39 kcX12_byteAt mlX12_162 viX12_byteAt rfl k_166 z_166 cb (Nat.le_of_ble_eq_true rfl) rfl ?_
              refine zk_istore_n (lo' := [_, _, _]) hX dX12_faultOf_42 (Nat.le_of_ble_eq_true rfl) rfl rfl ?_
              refine zk_iload_n hX dX12_faultOf_43 rfl ?_
              refine zk_bipush (v := 32) hX dX12_faultOf_44 (by decide) ?_
              refine zk_icmp_ne (tgt := 62) hX dX12_faultOf_46 (by decide) (fun c46 => ?_) (fun c46 => ?_)
              · exact absurd c46 (not_not_intro h3)
              refine zk_aload_n hX dX12_faultOf_49 rfl ?_
              refine zk_dup hX dX12_faultOf_50 rfl ?_
              refine zk_getI hX dX12_faultOf_51 flX12_159 k_166 z_166 ?_
              rw [hR.2.1]
              refine zk_iconst (v := 1) hX dX12_faultOf_54 (by decide) ?_
              refine zk_iadd hX dX12_faultOf_55 ?_
              rw [nI_1]
              refine zk_putI hX dX12_faultOf_56 plX12_159 (fun h => by cases h) k_166 z_166 rfl rfl ?_
              refine zk_goto (tgt := 98) hX dX12_faultOf_59 (by decide) ?_
              refine zk_goto (tgt := 20) hX dX12_faultOf_98 (by decide) ?_
              rw [if_pos rfl] at eA
              refine ih (p + 1) D _ _ (by omega) (zFr_t hF (zFr_m (by decide))) ⟨by rw [zsi_o (by decide)]; exact hR.1, by rw [zsi_1, if_pos ⟨rfl, rfl⟩], rdH_f hR.2.2 (zFr_m (A := []) (B := []) (F := [16]) (by decide)) (by decide)⟩ hD (by omega) (he.trans eA)
            · rw [if_neg h3] at eO
              rw [eO] at ok hne eA
              rw [if_neg (fun q => by cases q)] at eA
              refine zk_aload_n hX dX12_faultOf_20 rfl ?_
              refine zk_getI hX dX12_faultOf_21 flX12_159 k_166 z_166 ?_
              rw [hR.2.1]
              refine zk_aload_n hX dX12_faultOf_24 rfl ?_
              refine zk_getR hX dX12_faultOf_25 flX12_22 k_166 z_166 (hw1 _ _ (by decide) |>.trans r_166_8) ?_
              refine zk_iload_n hX dX12_faultOf_28 rfl ?_
              refine zk_ialdE hX dX12_faultOf_29 rfl k_171 z_171 (by first | assumption | omega) rfl ?_
              rw [hR.1]
              refine zk_icmp_ge (tgt := 101) hX dX12_faultOf_30 (by decide) (fun c30 => ?_) (fun c30 => ?_)
              · exact absurd c30 (nI_ge hpm (by omega))
              refine zk_aload_n hX dX12_faultOf_33 rfl ?_
              refine zk_iload_n hX dX12_faultOf_34 rfl ?_
              refine zk_aload_n hX dX12_faultOf_35 rfl ?_
              refine zk_getI hX dX12_faultOf_36 flX12_159 k_166 z_166 ?_
              rw [hR.2.1]
              refine zk_V2i hX dX12_faultOf_39 kcX12_byteAt mlX12_162 viX12_byteAt rfl k_166 z_166 cb (Nat.le_of_ble_eq_true rfl) rfl ?_
              refine zk_istore_n (lo' := [_, _, _]) hX dX12_faultOf_42 (Nat.le_of_ble_eq_true rfl) rfl rfl ?_
              refine zk_iload_n hX dX12_faultOf_43 rfl ?_
              refine zk_bipush (v := 32) hX dX12_faultOf_44 (by decide) ?_
              refine zk_icmp_ne (tgt := 62) hX dX12_faultOf_46 (by decide) (fun c46 => ?_) (fun c46 => ?_)
              rotate_left
              · exact absurd c46 h3
              refine zk_iload_n hX dX12_faultOf_62 rfl ?_
              refine zk_bipush (v := 104) hX dX12_faultOf_63 (by decide) ?_
              refine zk_icmp_ne (tgt := 79) hX dX12_faultOf_65 (by decide) (fun c65 => ?_) (fun c65 => ?_)
              rotate_left
              · exact absurd c65 h1
              refine zk_iload_n hX dX12_faultOf_79 rfl ?_
              refine zk_bipush (v := 102) hX dX12_faultOf_80 (by decide) ?_
              refine zk_icmp_ne (tgt := 93) hX dX12_faultOf_82 (by decide) (fun c82 => ?_) (fun c82 => ?_)
              rotate_left
              · exact absurd c82 h2
              refine zk_aload_n hX dX12_faultOf_93 rfl ?_
              refine zk_getI hX dX12_faultOf_94 flX12_159 k_166 z_166 ?_
              rw [hR.2.1]
              refine zk_iret hX hE rfl ⟨rfl, rfl⟩ dX12_faultOf_97 ⟨_, rfl, ?_⟩
              rw [he, eA]
              exact ⟨hF, rfl, fun q => absurd q hne⟩
      · rw [if_neg hpm] at eA
        rw [he, eA] at hE
        refine zk_aload_n hX dX12_faultOf_20 rfl ?_
        refine zk_getI hX dX12_faultOf_21 flX12_159 k_166 z_166 ?_
        rw [hR.2.1]
        refine zk_aload_n hX dX12_faultOf_24 rfl ?_
        refine zk_getR hX dX12_faultOf_25 flX12_22 k_166 z_166 (hw1 _ _ (by decide) |>.trans r_166_8) ?_
        refine zk_iload_n hX dX12_faultOf_28 rfl ?_
        refine zk_ialdE hX dX12_faultOf_29 rfl k_171 z_171 (by first | assumption | omega) rfl ?_
        rw [hR.1]
        refine zk_icmp_ge (tgt := 101) hX dX12_faultOf_30 (by decide) (fun c30 => ?_) (fun c30 => ?_)
        rotate_left
        · exact absurd (nI_le (by omega) (by omega)) c30
        refine zk_bipush (v := -9) hX dX12_faultOf_101 (by decide) ?_
        refine zk_iret hX hE rfl ⟨rfl, rfl⟩ dX12_faultOf_103 ⟨_, rfl, ?_⟩
        exact ⟨hF, rfl, fun _ => hR.2.2⟩
  refine zk_aload_n hX dX12_faultOf_0 rfl ?_
  refine zk_iconst (v := 0) hX dX12_faultOf_1 (by decide) ?_
  refine zk_putI hX dX12_faultOf_2 plX12_159 (fun h => by cases h) k_166 z_166 rfl rfl ?_
  refine zk_aload_n hX dX12_faultOf_5 rfl ?_
  refine zk_iconst (v := 0) hX dX12_faultOf_6 (by decide) ?_
  refine zk_putI hX dX12_faultOf_7 plX12_168 (fun h => by cases h) k_166 z_166 rfl rfl ?_
  refine zk_aload_n hX dX12_faultOf_10 rfl ?_
  refine zk_iconst (v := 0) hX dX12_faultOf_11 (by decide) ?_
  refine zk_putI hX dX12_faultOf_12 plX12_174 (fun h => by cases h) k_166 z_166 rfl rfl ?_
  refine zk_aload_n hX dX12_faultOf_15 rfl ?_
  refine zk_iconst (v := 0) hX dX12_faultOf_16 (by decide) ?_
  refine zk_putI hX dX12_faultOf_17 plX12_181 (fun h => by cases h) k_166 z_166 rfl rfl ?_
  refine loop 81 0 dNil _ _ (by omega) (zFr_t (zFr_t (zFr_t (zFr_m (by decide)) (zFr_m (by decide))) (zFr_m (by decide))) (zFr_m (by decide))) ⟨?_, ?_, ⟨?_, ?_, ?_⟩, ?_, ?_, ?_⟩ dNil_ok (Nat.zero_le _) rfl
  · rw [zsi_o (by decide), zsi_o (by decide), zsi_o (by decide), zsi_o (by decide)]
    exact hS
  · rw [zsi_1, if_neg (by omega), zsi_1, if_neg (by omega), zsi_1, if_neg (by omega), zsi_1, if_pos ⟨rfl, rfl⟩]
    rfl
  · rw [zsi_1, if_neg (by omega), zsi_1, if_neg (by omega), zsi_1, if_pos ⟨rfl, rfl⟩]
    rfl
  · rw [zsi_1, if_neg (by omega), zsi_1, if_pos ⟨rfl, rfl⟩]
    rfl
  · rw [zsi_1, if_pos ⟨rfl, rfl⟩]
    rfl
  · exact fun h hh => absurd hh (by show ¬ h < 0; omega)
  · exact fun h hh => absurd hh (by show ¬ h < 0; omega)
  · exact fun h hh => absurd hh (by show ¬ h < 0; omega)
theorem s_X12_fault_bad {G : zG} {w : zW} (t : Int32) (h : ¬ (0 ≤ t ∧ t ≤ 3)) : zEi G mX12_fault [.ref 166, .int t] w (-1) w := by
  refine zC_of (lo := [_, _]) kcX12_fault (Nat.le_of_ble_eq_true rfl) rfl (fun X hX hE => ?_)
  refine zk_iload_n hX dX12_fault_0 rfl ?_
  refine zk_S1i hX dX12_fault_1 kcX12_isText mlX12_156 smX12_isText rfl (s_X12_isText _) (Nat.le_of_ble_eq_true rfl) rfl ?_
  refine zk_if_neB (tgt := 9) hX dX12_fault_4 (by decide) (fun c4 => ?_) (fun c4 => ?_)
  · exact absurd c4 h
  refine zk_iconst (v := -1) hX dX12_fault_7 (by decide) ?_
  refine zk_iret hX hE rfl ⟨rfl, rfl⟩ dX12_fault_8 ⟨_, rfl, ?_⟩
  exact ⟨rfl, rfl⟩
theorem s_X12_fault_m {G : zG} {w : zW} {t : Nat} (hw : zWf w) (ht : t < 4) (hS : w.1 171 t < 0) : zEi G mX12_fault [.ref 166, .int (nI t)] w (-3) (mfind w 1) := by
  refine zC_of (lo := [_, _]) kcX12_fault (Nat.le_of_ble_eq_true rfl) rfl (fun X hX hE => ?_)
  refine zk_iload_n hX dX12_fault_0 rfl ?_
  refine zk_S1i hX dX12_fault_1 kcX12_isText mlX12_156 smX12_isText rfl (s_X12_isText _) (Nat.le_of_ble_eq_true rfl) rfl ?_
  refine zk_if_neB (tgt := 9) hX dX12_fault_4 (by decide) (fun c4 => ?_) (fun c4 => ?_)
  rotate_left
  · exact absurd (zrle (n := 3) (by omega)) c4
  refine zk_aload_n hX dX12_fault_9 rfl ?_
  refine zk_getR hX dX12_fault_10 flX12_22 k_166 z_166 (hw _ _ (by decide) |>.trans r_166_8) ?_
  refine zk_iload_n hX dX12_fault_13 rfl ?_
  refine zk_ialdE hX dX12_fault_14 rfl k_171 z_171 (by first | assumption | omega) rfl ?_
  refine zk_if_ge (tgt := 26) hX dX12_fault_15 (by decide) (fun c15 => ?_) (fun c15 => ?_)
  · exact absurd c15 (by grind)
  refine zk_aload_n hX dX12_fault_18 rfl ?_
  refine zk_iconst (v := 1) hX dX12_fault_19 (by decide) ?_
  refine zk_V1i hX dX12_fault_20 kcX12_meets mlX12_145 viX12_meets rfl k_166 z_166 (s_X12_meets hw _ (by decide)) (Nat.le_of_ble_eq_true rfl) rfl ?_
  refine zk_goto (tgt := 31) hX dX12_fault_23 (by decide) ?_
  refine zk_iret hX hE rfl ⟨rfl, rfl⟩ dX12_fault_31 ⟨_, rfl, ?_⟩
  exact ⟨rfl, rfl⟩
theorem s_X12_fault {G : zG} {w : zW} {t m : Nat} (hw : zWf w) (ht : t < 4) (hm : m ≤ 80) (hS : w.1 171 t = nI m) :
    zCi G mX12_fault [.ref 166, .int (nI t)] w (fun r w' => zFr [176, 177, 178] [] [16, 17, 18, 19, 20] w w' ∧ r = (rAll (mT w t) m 81 0 dNil).1) := by
  refine zC_of (lo := [_, _]) kcX12_fault (Nat.le_of_ble_eq_true rfl) rfl (fun X hX hE => ?_)
  refine zk_iload_n hX dX12_fault_0 rfl ?_
  refine zk_S1i hX dX12_fault_1 kcX12_isText mlX12_156 smX12_isText rfl (s_X12_isText _) (Nat.le_of_ble_eq_true rfl) rfl ?_
  refine zk_if_neB (tgt := 9) hX dX12_fault_4 (by decide) (fun c4 => ?_) (fun c4 => ?_)
  rotate_left
  · exact absurd (zrle (n := 3) (by omega)) c4
  refine zk_aload_n hX dX12_fault_9 rfl ?_
  refine zk_getR hX dX12_fault_10 flX12_22 k_166 z_166 (hw _ _ (by decide) |>.trans r_166_8) ?_
  refine zk_iload_n hX dX12_fault_13 rfl ?_
  refine zk_ialdE hX dX12_fault_14 rfl k_171 z_171 (by first | assumption | omega) rfl ?_
  rw [hS]
  refine zk_if_ge (tgt := 26) hX dX12_fault_15 (by decide) (fun c15 => ?_) (fun c15 => ?_)
  rotate_left
  · exact absurd (nI_pos' (by omega)) c15
  refine zk_aload_n hX dX12_fault_26 rfl ?_
  refine zk_iload_n hX dX12_fault_27 rfl ?_
  refine zk_V1ip hX dX12_fault_28 kcX12_faultOf mlX12_190 viX12_faultOf rfl k_166 z_166 (s_X12_faultOf hw ht hm hS) (Nat.le_of_ble_eq_true rfl) rfl (fun r w2 q2 => ?_)
  refine zk_iret hX hE rfl ⟨rfl, rfl⟩ dX12_fault_31 ⟨_, rfl, ?_⟩
  exact ⟨q2.1, q2.2.1⟩
theorem s_X11_fault_bad {G : zG} {w : zW} (t : Int32) (h : ¬ (0 ≤ t ∧ t < 4)) : zEi G mX11_fault [.ref 0, .int t] w (-1) w := by
  refine zC_of (lo := [_, _]) kcX11_fault (Nat.le_of_ble_eq_true rfl) rfl (fun X hX hE => ?_)
  refine zk_iload_n hX dX11_fault_0 rfl ?_
  refine zk_S1i hX dX11_fault_1 kcX11_isText mlX11_153 smX11_isText rfl (s_X11_isText _) (Nat.le_of_ble_eq_true rfl) rfl ?_
  refine zk_if_neB (tgt := 9) hX dX11_fault_4 (by decide) (fun c4 => ?_) (fun c4 => ?_)
  · exact absurd c4 h
  refine zk_iconst (v := -1) hX dX11_fault_7 (by decide) ?_
  refine zk_iret hX hE rfl ⟨rfl, rfl⟩ dX11_fault_8 ⟨_, rfl, ?_⟩
  exact ⟨rfl, rfl⟩
theorem s_X11_fault_m {G : zG} {w : zW} {t : Nat} (hw : zWf w) (ht : t < 4) (hS : w.1 (17 + 2 * t) 0 < 0) : zEi G mX11_fault [.ref 0, .int (nI t)] w (-3) (zfind w 1) := by
  refine zC_of (lo := [_, _]) kcX11_fault (Nat.le_of_ble_eq_true rfl) rfl (fun X hX hE => ?_)
  refine zk_iload_n hX dX11_fault_0 rfl ?_
  refine zk_S1i hX dX11_fault_1 kcX11_isText mlX11_153 smX11_isText rfl (s_X11_isText _) (Nat.le_of_ble_eq_true rfl) rfl ?_
  refine zk_if_neB (tgt := 9) hX dX11_fault_4 (by decide) (fun c4 => ?_) (fun c4 => ?_)
  rotate_left
  · exact absurd (zrlt ht) c4
  refine zk_aload_n hX dX11_fault_9 rfl ?_
  refine zk_getR hX dX11_fault_10 flX11_25 k_0 z_0 (hw _ _ (by decide) |>.trans r_0_2) ?_
  refine zk_iload_n hX dX11_fault_13 rfl ?_
  refine zk_texts hX hw dX11_fault_14 rfl (by first | assumption | omega) ?_
  refine zk_V0i hX dX11_fault_15 kcX8_isThere mlX11_119 viX8_isThere rfl (zRwT0 (by first | assumption | omega)) (zRw_t _ (by first | assumption | omega)).2.1 (s_X8_isThere (zRwT ht)) (Nat.le_of_ble_eq_true rfl) rfl ?_
  refine zk_if_neB (tgt := 30) hX dX11_fault_18 (by decide) (fun c18 => ?_) (fun c18 => ?_)
  · exact absurd c18 (by grind)
  refine zk_aload_n hX dX11_fault_21 rfl ?_
  refine zk_getR hX dX11_fault_22 flX11_12 k_0 z_0 (hw _ _ (by decide) |>.trans r_0_0) ?_
  refine zk_iconst (v := 1) hX dX11_fault_25 (by decide) ?_
  refine zk_V1i hX dX11_fault_26 kcX9_find mlX11_111 viX9_find rfl k_1 z_1 (s_X9_find hw _ (by decide)) (Nat.le_of_ble_eq_true rfl) rfl ?_
  refine zk_iret hX hE rfl ⟨rfl, rfl⟩ dX11_fault_29 ⟨_, rfl, ?_⟩
  exact ⟨rfl, rfl⟩
theorem s_X11_fault {G : zG} {w : zW} {t m : Nat} (hw : zWf w) (ht : t < 4) (hm : m ≤ 80) (hS : w.1 (17 + 2 * t) 0 = nI m) :
    zCi G mX11_fault [.ref 0, .int (nI t)] w (fun r w' => zWf w' ∧ (∀ c, c ∉ [25, 35, 36, 37, 38, 39, 40, 41, 42, 43] → w'.1 c = w.1 c) ∧ w'.2.1 = w.2.1 ∧ r = (rAll (w.1 (17 + 2 * t + 1)) m 81 0 dNil).1) := by
  refine zC_of (lo := [_, _]) kcX11_fault (Nat.le_of_ble_eq_true rfl) rfl (fun X hX hE => ?_)
  refine zk_iload_n hX dX11_fault_0 rfl ?_
  refine zk_S1i hX dX11_fault_1 kcX11_isText mlX11_153 smX11_isText rfl (s_X11_isText _) (Nat.le_of_ble_eq_true rfl) rfl ?_
  refine zk_if_neB (tgt := 9) hX dX11_fault_4 (by decide) (fun c4 => ?_) (fun c4 => ?_)
  rotate_left
  · exact absurd (zrlt ht) c4
  refine zk_aload_n hX dX11_fault_9 rfl ?_
  refine zk_getR hX dX11_fault_10 flX11_25 k_0 z_0 (hw _ _ (by decide) |>.trans r_0_2) ?_
  refine zk_iload_n hX dX11_fault_13 rfl ?_
  refine zk_texts hX hw dX11_fault_14 rfl (by first | assumption | omega) ?_
  refine zk_V0i hX dX11_fault_15 kcX8_isThere mlX11_119 viX8_isThere rfl (zRwT0 (by first | assumption | omega)) (zRw_t _ (by first | assumption | omega)).2.1 (s_X8_isThere (zRwT ht)) (Nat.le_of_ble_eq_true rfl) rfl ?_
  refine zk_if_neB (tgt := 30) hX dX11_fault_18 (by decide) (fun c18 => ?_) (fun c18 => ?_)
  rotate_left
  · exact absurd (by rw [hS]; exact nI_pos' (by omega)) c18
  refine zk_aload_n hX dX11_fault_30 rfl ?_
  refine zk_getR hX dX11_fault_31 flX11_31 k_0 z_0 (hw _ _ (by decide) |>.trans r_0_3) ?_
  refine zk_aload_n hX dX11_fault_34 rfl ?_
  refine zk_getR hX dX11_fault_35 flX11_25 k_0 z_0 (hw _ _ (by decide) |>.trans r_0_2) ?_
  refine zk_iload_n hX dX11_fault_38 rfl ?_
  refine zk_texts hX hw dX11_fault_39 rfl (by first | assumption | omega) ?_
  refine zk_aload_n hX dX11_fault_40 rfl ?_
  refine zk_getR hX dX11_fault_41 flX11_42 k_0 z_0 (hw _ _ (by decide) |>.trans r_0_5) ?_
  refine zk_V2ip hX dX11_fault_44 kcX7_read mlX11_156 viX7_read rfl k_25 z_25 (s_X7_read hw (zRwT ht) (by omega) (Or.inr rfl) hm hS) (Nat.le_of_ble_eq_true rfl) rfl (fun r w2 q2 => ?_)
  refine zk_iret hX hE rfl ⟨rfl, rfl⟩ dX11_fault_47 ⟨_, rfl, ?_⟩
  exact ⟨q2.1, q2.2.1, q2.2.2.1, q2.2.2.2.1⟩
