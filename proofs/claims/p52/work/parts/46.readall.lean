theorem rJs_ok {T : Nat → Int32} {m : Nat} : ∀ (n p : Nat) (D : zD), zDok D → 0 < dF D → dL D (dF D - 1) + n ≤ 3 → p ≤ m → zDok (rJs T m n p D).2.2 ∧ p ≤ (rJs T m n p D).2.1 ∧ (rJs T m n p D).2.1 ≤ m
  | 0, p, D, hD, _, _, hp => ⟨hD, Nat.le_refl _, hp⟩
  | n + 1, p, D, hD, hF, hL, hp => by
    have h6 := hD.1.2.2
    unfold rJs
    by_cases h1 : zfg T m p = 99
    · rw [if_pos h1]
      exact ⟨hD, Nat.le_refl _, hp⟩
    · have hpm := zfg_p h1
      rw [if_neg h1]
      by_cases h2 : dJ D = 6 ∨ 2 < zfg T m p
      · rw [if_pos h2]
        exact ⟨hD, Nat.le_refl _, hp⟩
      · rw [if_neg h2]
        by_cases h3 : 2 < zfg T m (p + 1)
        · rw [if_pos h3]
          exact ⟨hD, by show p ≤ p + 1; omega, by show p + 1 ≤ m; omega⟩
        · have hpm2 := zfg_p (T := T) (m := m) (p := p + 1) (by omega)
          rw [if_neg h3]
          have ok := dJnt_ok hD (b := zfg T m p) (t := zfg T m (p + 1)) hF (by omega) (by omega) (by omega) (by omega)
          have e : dL (dJnt D (zfg T m p) (zfg T m (p + 1))) (dF D - 1) = dL D (dF D - 1) + 1 := nup_s
          have ih := rJs_ok (T := T) (m := m) n (p + 2) (dJnt D (zfg T m p) (zfg T m (p + 1))) ok hF (by show dL (dJnt D (zfg T m p) (zfg T m (p + 1))) (dF D - 1) + n ≤ 3; rw [e]; omega) (by omega)
          exact ⟨ih.1, by omega, ih.2.2⟩
theorem rOne_ok {T : Nat → Int32} {m p : Nat} {D : zD} (hD : zDok D) (hp : p < m) : zDok (rOne T m p D).2.2 ∧ (rOne T m p D).2.1 ≤ m ∧ ((rOne T m p D).1 = true → p < (rOne T m p D).2.1) := by
  unfold rOne
  by_cases h1 : T p = 104
  · rw [if_pos h1]
    have hr := rNum_p (T := T) (m := m) 3 (p + 1) 0 (by omega)
    unfold rHand
    by_cases h2 : dW D = 2
    · rw [if_pos h2]
      exact ⟨hD, by show p ≤ m; omega, fun q => by cases q⟩
    · rw [if_neg h2]
      have hW := hD.1.1
      by_cases h3 : p + 1 < (rNum T m 3 (p + 1) 0).1 ∧ (rNum T m 3 (p + 1) 0).2 < 120
      · rw [if_pos h3]
        exact ⟨dHand_ok hD (by omega) h3.2, hr.2.1, fun _ => by show p < (rNum T m 3 (p + 1) 0).1; omega⟩
      · rw [if_neg h3]
        exact ⟨hD, hr.2.1, fun q => by cases q⟩
  · rw [if_neg h1]
    by_cases h2 : T p = 102
    · rw [if_pos h2]
      unfold rFin
      by_cases h3 : dW D = 0 ∨ dF D = 6
      · rw [if_pos h3]
        exact ⟨hD, by show p ≤ m; omega, fun q => by cases q⟩
      · rw [if_neg h3]
        have hF := hD.1.2.1
        by_cases h4 : 7 < zfg T m (p + 1)
        · rw [if_pos h4]
          exact ⟨hD, by show p + 1 ≤ m; omega, fun q => by cases q⟩
        · rw [if_neg h4]
          have hpm := zfg_p (T := T) (m := m) (p := p + 1) (by omega)
          have ok := dFin_ok hD (s := zfg T m (p + 1)) (by omega) (by omega) (by omega)
          have e : dL (dFin D (zfg T m (p + 1))) (dF D) = 0 := nup_s
          have r := rJs_ok (T := T) (m := m) 3 (p + 2) (dFin D (zfg T m (p + 1))) ok (by show 0 < dF D + 1; omega) (by show dL (dFin D (zfg T m (p + 1))) (dF D + 1 - 1) + 3 ≤ 3; rw [show dF D + 1 - 1 = dF D by omega, e]; omega) (by omega)
          exact ⟨r.1, r.2.2, fun _ => by omega⟩
    · rw [if_neg h2]
      by_cases h3 : T p = 32
      · rw [if_pos h3]
        exact ⟨hD, by show p + 1 ≤ m; omega, fun _ => by show p < p + 1; omega⟩
      · rw [if_neg h3]
        exact ⟨hD, by show p ≤ m; omega, fun q => by cases q⟩
theorem s_X7_readFinger {G : zG} {w : zW} {a b m p : Nat} {D : zD} (hw : zWf w) (hA : zRw a 80) (ha : a < 25) (hb : zHb b) (hm : m ≤ 80) (hp : p < m) (hD : zDok D) (hR : cRd w a b m p D) :
    zCi G mX7_readFinger [.ref 25] w (fun r w' => r = zb ((rFin (w.1 (a + 1)) m p D).1 = true) ∧ zFr [25, b, b + 1, b + 2, b + 3, b + 4, b + 5, b + 6, b + 7, b + 8] [] [] w w' ∧ cRd w' a b m (rFin (w.1 (a + 1)) m p D).2.1 (rFin (w.1 (a + 1)) m p D).2.2) := by
  have hW2 := hD.1.1
  have hF6 := hD.1.2.1
  have hbf := (zHb_f hb).1
  have h26 : 26 ≤ b := by rcases hb with rfl | rfl <;> decide
  have ha24 : a + 1 ≠ 25 := by
    intro e
    have := hA.1.2.1
    rw [show a = 24 by omega] at this
    exact absurd this (by decide +kernel)
  refine zC_of (lo := [_, _]) kcX7_readFinger (Nat.le_of_ble_eq_true rfl) rfl (fun X hX hE => ?_)
  have loop : ∀ n i q E w1, i + n = 3 → zFr [25, b, b + 1, b + 2, b + 3, b + 4, b + 5, b + 6, b + 7, b + 8] [] [] w w1 → cRd w1 a b m q E → zDok E → 0 < dF E → dL E (dF E - 1) = i → q ≤ m → rFin (w.1 (a + 1)) m p D = rJs (w.1 (a + 1)) m n q E → zk0 G X mX7_readFinger 78 [.ref 25, .int (nI i)] [] w1 := by
    intro n
    induction n with
    | zero =>
      intro i q E w1 hi hF hR1 hE1 hF1 hL1 hq he
      rw [he] at hE
      refine zk_iload_n hX dX7_readFinger_78 rfl ?_
      refine zk_iconst (v := 3) hX dX7_readFinger_79 (by decide) ?_
      refine zk_icmp_ge (tgt := 106) hX dX7_readFinger_80 (by decide) (fun c80 => ?_) (fun c80 => ?_)
      rotate_left
      · exact absurd (nI_le (a := 3) (by omega) (by omega)) c80
      refine zk_iconst (v := 1) hX dX7_readFinger_106 (by decide) ?_
      refine zk_zret hX hE rfl ⟨rfl, rfl⟩ dX7_readFinger_107 rfl ⟨_, rfl, ?_⟩
      exact ⟨(zb_t rfl).symm, hF, hR1⟩
    | succ n ih =>
      intro i q E w1 hi hF hR1 hE1 hF1 hL1 hq he
      have hw1 := zFr_wf hF hw
      have eT : w1.1 (a + 1) = w.1 (a + 1) := hF.2.1 (a + 1) (by simp; omega) (by omega)
      have cf := s_X7_figure (G := G) hw1 hA hm (show q ≤ 80 by omega) hR1
      rw [eT] at cf
      by_cases h1 : zfg (w.1 (a + 1)) m q = 99
      · have e2 : rJs (w.1 (a + 1)) m (n + 1) q E = (true, q, E) := by
          show (if zfg (w.1 (a + 1)) m q = 99 then _ else _) = _
          rw [if_pos h1]
        rw [he, e2] at hE
        refine zk_iload_n hX dX7_readFinger_78 rfl ?_
        refine zk_iconst (v := 3) hX dX7_readFinger_79 (by decide) ?_
        refine zk_icmp_ge (tgt := 106) hX dX7_readFinger_80 (by decide) (fun c80 => ?_) (fun c80 => ?_)
        · exact absurd c80 (nI_ge (b := 3) (by omega) (by decide))
        refine zk_aload_n hX dX7_readFinger_83 rfl ?_
        refine zk_V0i hX dX7_readFinger_84 kcX7_figure mlX7_50 viX7_figure rfl k_25 z_25 cf (Nat.le_of_ble_eq_true rfl) rfl ?_
        refine zk_iconst (v := -1) hX dX7_readFinger_87 (by decide) ?_
        refine zk_icmp_eq (tgt := 106) hX dX7_readFinger_88 (by decide) (fun c88 => ?_) (fun c88 => ?_)
        rotate_left
        · exact absurd (zfi_m.mpr h1) c88
        refine zk_iconst (v := 1) hX dX7_readFinger_106 (by decide) ?_
        refine zk_zret hX hE rfl ⟨rfl, rfl⟩ dX7_readFinger_107 rfl ⟨_, rfl, ?_⟩
        exact ⟨(zb_t rfl).symm, hF, hR1⟩
      · have cj := s_X7_readJoint (G := G) hw1 hA ha hb hm (by rw [eT]; exact h1) hE1 hF1 hR1
        rw [eT] at cj
        refine zk_iload_n hX dX7_readFinger_78 rfl ?_
        refine zk_iconst (v := 3) hX dX7_readFinger_79 (by decide) ?_
        refine zk_icmp_ge (tgt := 106) hX dX7_readFinger_80 (by decide) (fun c80 => ?_) (fun c80 => ?_)
        · exact absurd c80 (nI_ge (b := 3) (by omega) (by decide))
        refine zk_aload_n hX dX7_readFinger_83 rfl ?_
        refine zk_V0i hX dX7_readFinger_84 kcX7_figure mlX7_50 viX7_figure rfl k_25 z_25 cf (Nat.le_of_ble_eq_true rfl) rfl ?_
        refine zk_iconst (v := -1) hX dX7_readFinger_87 (by decide) ?_
        refine zk_icmp_eq (tgt := 106) hX dX7_readFinger_88 (by decide) (fun c88 => ?_) (fun c88 => ?_)
        · exact absurd c88 (fun z => h1 (zfi_m.mp z))
        refine zk_aload_n hX dX7_readFinger_91 rfl ?_
        refine zk_V0ip hX dX7_readFinger_92 kcX7_readJoint mlX7_64 viX7_readJoint rfl k_25 z_25 cj (Nat.le_of_ble_eq_true rfl) rfl (fun r w2 q2 => ?_)
        obtain ⟨k1, k2⟩ := q2
        refine zk_if_ne (tgt := 100) hX dX7_readFinger_95 (by decide) (fun c95 => ?_) (fun c95 => ?_)
        · refine zk_iinc (lo' := [_, _]) hX dX7_readFinger_100 rfl (by first | exact zinc _ | exact rfl) (Nat.le_of_ble_eq_true rfl) rfl rfl ?_
          refine zk_goto (tgt := 78) hX dX7_readFinger_103 (by decide) ?_
          rcases k2 with ⟨g1, g2, g3⟩ | ⟨g1, g2, g3, g4⟩ | ⟨g1, g2, g3, g4⟩
          · exact absurd g2 c95
          · exact absurd g3 c95
          · have hpm2 := zfg_p (T := w.1 (a + 1)) (m := m) (p := q + 1) (by omega)
            have e2 : rJs (w.1 (a + 1)) m (n + 1) q E = rJs (w.1 (a + 1)) m n (q + 2) (dJnt E (zfg (w.1 (a + 1)) m q) (zfg (w.1 (a + 1)) m (q + 1))) := by
              show (if zfg (w.1 (a + 1)) m q = 99 then _ else _) = _
              rw [if_neg h1, if_neg g1, if_neg g2]
            have h6 := hE1.1.2.2
            have e4 : dL (dJnt E (zfg (w.1 (a + 1)) m q) (zfg (w.1 (a + 1)) m (q + 1))) (dF E - 1) = dL E (dF E - 1) + 1 := nup_s
            exact ih (i + 1) (q + 2) _ w2 (by omega) (zFr_t hF k1) g4 (dJnt_ok hE1 hF1 (by omega) (by omega) (by omega) (by omega)) hF1 (by show dL (dJnt E (zfg (w.1 (a + 1)) m q) (zfg (w.1 (a + 1)) m (q + 1))) (dF E - 1) = i + 1; rw [e4]; omega) (by omega) (he.trans e2)
        · refine zk_iconst (v := 0) hX dX7_readFinger_98 (by decide) ?_
          refine zk_zret hX hE rfl ⟨rfl, rfl⟩ dX7_readFinger_99 rfl ⟨_, rfl, ?_⟩
          have e3 : r = 0 := by first | exact c95 | exact Decidable.not_not.mp c95
          rcases k2 with ⟨g1, g2, g3⟩ | ⟨g1, g2, g3, g4⟩ | ⟨g1, g2, g3, g4⟩
          · have e2 : rJs (w.1 (a + 1)) m (n + 1) q E = (false, q, E) := by
              show (if zfg (w.1 (a + 1)) m q = 99 then _ else _) = _
              rw [if_neg h1, if_pos g1]
            rw [he, e2]
            exact ⟨(zb_f (fun q => by cases q)).symm, zFr_t hF k1, g3⟩
          · have e2 : rJs (w.1 (a + 1)) m (n + 1) q E = (false, q + 1, E) := by
              show (if zfg (w.1 (a + 1)) m q = 99 then _ else _) = _
              rw [if_neg h1, if_neg g1, if_pos g2]
            rw [he, e2]
            exact ⟨(zb_f (fun q => by cases q)).symm, zFr_t hF k1, g4⟩
          · rw [e3] at g3
            exact absurd g3 (by decide)
  have hFp : zFr [25] [] [] w (zsi w 25 2 (nI (p + 1))) := zFr_i (by decide) (by decide)
  have hR1 := cRd_f (q := p + 1) hR ha hb hFp (by rw [zsi_1, if_pos ⟨rfl, rfl⟩])
  have eT : (zsi w 25 2 (nI (p + 1))).1 (a + 1) = w.1 (a + 1) := zsi_o ha24
  have cf1 := s_X7_figure (G := G) (zWf_i hw) hA hm (show p + 1 ≤ 80 by omega) hR1
  rw [eT] at cf1
  by_cases h0 : dW D = 0 ∨ dF D = 6
  · have e2 : rFin (w.1 (a + 1)) m p D = (false, p, D) := if_pos h0
    rw [e2] at hE
    refine zk_aload_n hX dX7_readFinger_0 rfl ?_
    refine zk_getR hX dX7_readFinger_1 flX7_15 k_25 z_25 hR.1.2 ?_
    refine zk_getI hX dX7_readFinger_4 flX7_47 (zHb_k (i := 0) hb (by decide)) (zHb_f hb).1.2.1 ?_
    rw [hR.2.2.1.1.1]
    refine zk_iconst (v := 1) hX dX7_readFinger_7 (by decide) ?_
    refine zk_icmp_lt (tgt := 23) hX dX7_readFinger_8 (by decide) (fun c8 => ?_) (fun c8 => ?_)
    · refine zk_iconst (v := 0) hX dX7_readFinger_23 (by decide) ?_
      refine zk_zret hX hE rfl ⟨rfl, rfl⟩ dX7_readFinger_24 rfl ⟨_, rfl, ?_⟩
      exact ⟨(zb_f (fun q => by cases q)).symm, zFr_r, hR⟩
    · refine zk_aload_n hX dX7_readFinger_11 rfl ?_
      refine zk_getR hX dX7_readFinger_12 flX7_15 k_25 z_25 hR.1.2 ?_
      refine zk_getI hX dX7_readFinger_15 flX7_58 (zHb_k (i := 0) hb (by decide)) (zHb_f hb).1.2.1 ?_
      rw [hR.2.2.1.1.2.1]
      refine zk_bipush (v := 6) hX dX7_readFinger_18 (by decide) ?_
      refine zk_icmp_lt (tgt := 25) hX dX7_readFinger_20 (by decide) (fun c20 => ?_) (fun c20 => ?_)
      · exfalso
        have q1 := nI_leD (a := 1) (y := dW D) (Int32.not_lt.mp c8)
        have q2 : dF D < 6 := (nI_ltI (b := 6) (by omega) (by decide)).mp c20
        omega
      · refine zk_iconst (v := 0) hX dX7_readFinger_23 (by decide) ?_
        refine zk_zret hX hE rfl ⟨rfl, rfl⟩ dX7_readFinger_24 rfl ⟨_, rfl, ?_⟩
        exact ⟨(zb_f (fun q => by cases q)).symm, zFr_r, hR⟩
  · by_cases h4 : 7 < zfg (w.1 (a + 1)) m (p + 1)
    · have e2 : rFin (w.1 (a + 1)) m p D = (false, p + 1, D) := by
        show (if dW D = 0 ∨ dF D = 6 then _ else _) = _
        rw [if_neg h0, if_pos h4]
      rw [e2] at hE
      refine zk_aload_n hX dX7_readFinger_0 rfl ?_
      refine zk_getR hX dX7_readFinger_1 flX7_15 k_25 z_25 hR.1.2 ?_
      refine zk_getI hX dX7_readFinger_4 flX7_47 (zHb_k (i := 0) hb (by decide)) (zHb_f hb).1.2.1 ?_
      rw [hR.2.2.1.1.1]
      refine zk_iconst (v := 1) hX dX7_readFinger_7 (by decide) ?_
      refine zk_icmp_lt (tgt := 23) hX dX7_readFinger_8 (by decide) (fun c8 => ?_) (fun c8 => ?_)
      · exact absurd c8 (nI_nlt (b := 1) (by omega) (by omega))
      refine zk_aload_n hX dX7_readFinger_11 rfl ?_
      refine zk_getR hX dX7_readFinger_12 flX7_15 k_25 z_25 hR.1.2 ?_
      refine zk_getI hX dX7_readFinger_15 flX7_58 (zHb_k (i := 0) hb (by decide)) (zHb_f hb).1.2.1 ?_
      rw [hR.2.2.1.1.2.1]
      refine zk_bipush (v := 6) hX dX7_readFinger_18 (by decide) ?_
      refine zk_icmp_lt (tgt := 25) hX dX7_readFinger_20 (by decide) (fun c20 => ?_) (fun c20 => ?_)
      rotate_left
      · exact absurd (nI_lt (b := 6) (by omega) (by decide)) c20
      refine zk_aload_n hX dX7_readFinger_25 rfl ?_
      refine zk_dup hX dX7_readFinger_26 rfl ?_
      refine zk_getI hX dX7_readFinger_27 flX7_19 k_25 z_25 ?_
      rw [hR.2.1]
      refine zk_iconst (v := 1) hX dX7_readFinger_30 (by decide) ?_
      refine zk_iadd hX dX7_readFinger_31 ?_
      rw [nI_1]
      refine zk_putI hX dX7_readFinger_32 plX7_19 (fun h => by cases h) k_25 z_25 rfl rfl ?_
      refine zk_aload_n hX dX7_readFinger_35 rfl ?_
      refine zk_V0i hX dX7_readFinger_36 kcX7_figure mlX7_50 viX7_figure rfl k_25 z_25 cf1 (Nat.le_of_ble_eq_true rfl) rfl ?_
      refine zk_iconst (v := -1) hX dX7_readFinger_39 (by decide) ?_
      refine zk_icmp_eq (tgt := 52) hX dX7_readFinger_40 (by decide) (fun c40 => ?_) (fun c40 => ?_)
      · refine zk_iconst (v := 0) hX dX7_readFinger_52 (by decide) ?_
        refine zk_zret hX hE rfl ⟨rfl, rfl⟩ dX7_readFinger_53 rfl ⟨_, rfl, ?_⟩
        exact ⟨(zb_f (fun q => by cases q)).symm, zFr_s' hFp, hR1⟩
      · refine zk_aload_n hX dX7_readFinger_43 rfl ?_
        refine zk_V0i hX dX7_readFinger_44 kcX7_figure mlX7_50 viX7_figure rfl k_25 z_25 cf1 (Nat.le_of_ble_eq_true rfl) rfl ?_
        refine zk_bipush (v := 7) hX dX7_readFinger_47 (by decide) ?_
        refine zk_icmp_le (tgt := 54) hX dX7_readFinger_49 (by decide) (fun c49 => ?_) (fun c49 => ?_)
        · exfalso
          rcases zfg_9 (T := w.1 (a + 1)) (m := m) (p := p + 1) with q | q
          · rw [zfi_t q] at c49
            exact absurd (nI_leD (y := 7) c49) (by omega)
          · exact c40 (zfi_m.mpr q)
        · refine zk_iconst (v := 0) hX dX7_readFinger_52 (by decide) ?_
          refine zk_zret hX hE rfl ⟨rfl, rfl⟩ dX7_readFinger_53 rfl ⟨_, rfl, ?_⟩
          exact ⟨(zb_f (fun q => by cases q)).symm, zFr_s' hFp, hR1⟩
    · have hpm := zfg_p (T := w.1 (a + 1)) (m := m) (p := p + 1) (by omega)
      have ok := dFin_ok hD (s := zfg (w.1 (a + 1)) m (p + 1)) (by omega) (by omega) (by omega)
      have e2 : rFin (w.1 (a + 1)) m p D = rJs (w.1 (a + 1)) m 3 (p + 2) (dFin D (zfg (w.1 (a + 1)) m (p + 1))) := by
        show (if dW D = 0 ∨ dF D = 6 then _ else _) = _
        rw [if_neg h0, if_neg h4]
      have eL : dL (dFin D (zfg (w.1 (a + 1)) m (p + 1))) (dF D + 1 - 1) = 0 := by
        rw [show dF D + 1 - 1 = dF D by omega]
        exact nup_s
      refine zk_aload_n hX dX7_readFinger_0 rfl ?_
      refine zk_getR hX dX7_readFinger_1 flX7_15 k_25 z_25 hR.1.2 ?_
      refine zk_getI hX dX7_readFinger_4 flX7_47 (zHb_k (i := 0) hb (by decide)) (zHb_f hb).1.2.1 ?_
      rw [hR.2.2.1.1.1]
      refine zk_iconst (v := 1) hX dX7_readFinger_7 (by decide) ?_
      refine zk_icmp_lt (tgt := 23) hX dX7_readFinger_8 (by decide) (fun c8 => ?_) (fun c8 => ?_)
      · exact absurd c8 (nI_nlt (b := 1) (by omega) (by omega))
      refine zk_aload_n hX dX7_readFinger_11 rfl ?_
      refine zk_getR hX dX7_readFinger_12 flX7_15 k_25 z_25 hR.1.2 ?_
      refine zk_getI hX dX7_readFinger_15 flX7_58 (zHb_k (i := 0) hb (by decide)) (zHb_f hb).1.2.1 ?_
      rw [hR.2.2.1.1.2.1]
      refine zk_bipush (v := 6) hX dX7_readFinger_18 (by decide) ?_
      refine zk_icmp_lt (tgt := 25) hX dX7_readFinger_20 (by decide) (fun c20 => ?_) (fun c20 => ?_)
      rotate_left
      · exact absurd (nI_lt (b := 6) (by omega) (by decide)) c20
      refine zk_aload_n hX dX7_readFinger_25 rfl ?_
      refine zk_dup hX dX7_readFinger_26 rfl ?_
      refine zk_getI hX dX7_readFinger_27 flX7_19 k_25 z_25 ?_
      rw [hR.2.1]
      refine zk_iconst (v := 1) hX dX7_readFinger_30 (by decide) ?_
      refine zk_iadd hX dX7_readFinger_31 ?_
      rw [nI_1]
      refine zk_putI hX dX7_readFinger_32 plX7_19 (fun h => by cases h) k_25 z_25 rfl rfl ?_
      refine zk_aload_n hX dX7_readFinger_35 rfl ?_
      refine zk_V0i hX dX7_readFinger_36 kcX7_figure mlX7_50 viX7_figure rfl k_25 z_25 cf1 (Nat.le_of_ble_eq_true rfl) rfl ?_
      refine zk_iconst (v := -1) hX dX7_readFinger_39 (by decide) ?_
      refine zk_icmp_eq (tgt := 52) hX dX7_readFinger_40 (by decide) (fun c40 => ?_) (fun c40 => ?_)
      · exact absurd c40 (fun z => by have := zfi_m.mp z; omega)
      refine zk_aload_n hX dX7_readFinger_43 rfl ?_
      refine zk_V0i hX dX7_readFinger_44 kcX7_figure mlX7_50 viX7_figure rfl k_25 z_25 cf1 (Nat.le_of_ble_eq_true rfl) rfl ?_
      rw [zfi_t (by omega)]
      refine zk_bipush (v := 7) hX dX7_readFinger_47 (by decide) ?_
      refine zk_icmp_le (tgt := 54) hX dX7_readFinger_49 (by decide) (fun c49 => ?_) (fun c49 => ?_)
      rotate_left
      · exact absurd (nI_le (b := 7) (by omega) (by decide)) c49
      refine zk_aload_n hX dX7_readFinger_54 rfl ?_
      refine zk_getR hX dX7_readFinger_55 flX7_15 k_25 z_25 hR1.1.2 ?_
      refine zk_aload_n hX dX7_readFinger_58 rfl ?_
      refine zk_V0i hX dX7_readFinger_59 kcX7_figure mlX7_50 viX7_figure rfl k_25 z_25 cf1 (Nat.le_of_ble_eq_true rfl) rfl ?_
      rw [zfi_t (by omega)]
      refine zk_V1ip hX dX7_readFinger_62 kcX2_addFinger mlX7_61 viX2_addFinger rfl (zHb_k (i := 0) hb (by decide)) (zHb_f hb).1.2.1 (s_X2_addFinger hb (zWf_i hw) hR1.2.2.1 hD (by omega) (by omega)) (Nat.le_of_ble_eq_true rfl) rfl (fun r w2 q2 => ?_)
      have hw2 := zFr_wf q2.1 (zWf_i hw)
      refine zk_pop hX dX7_readFinger_65 rfl ?_
      refine zk_aload_n hX dX7_readFinger_66 rfl ?_
      refine zk_dup hX dX7_readFinger_67 rfl ?_
      refine zk_getI hX dX7_readFinger_68 flX7_19 k_25 z_25 ?_
      rw [q2.1.2.1 25 (by simp; omega) (by decide), zsi_1, if_pos ⟨rfl, rfl⟩]
      refine zk_iconst (v := 1) hX dX7_readFinger_71 (by decide) ?_
      refine zk_iadd hX dX7_readFinger_72 ?_
      rw [nI_1]
      refine zk_putI hX dX7_readFinger_73 plX7_19 (fun h => by cases h) k_25 z_25 rfl rfl ?_
      refine zk_iconst (v := 0) hX dX7_readFinger_76 (by decide) ?_
      refine zk_istore_n (lo' := [_, _]) hX dX7_readFinger_77 (Nat.le_of_ble_eq_true rfl) rfl rfl ?_
      refine loop 3 0 (p + 2) (dFin D (zfg (w.1 (a + 1)) m (p + 1))) _ (by omega) (zFr_t (zFr_t (zFr_s' hFp) (zFr_s' q2.1)) (zFr_i (by simp) (by decide))) ⟨by rw [show (zsi w2 25 2 (nI (p + 1 + 1))).2.2 = w2.2.2 from rfl, q2.1.1]; exact hR1.1, by rw [zsi_1, if_pos ⟨rfl, rfl⟩], cHd_o q2.2 (fun c h1 h2 => zsi_o (by omega)), ?_⟩ ok (by show 0 < dF D + 1; omega) eL (by omega) e2
      rw [zsi_o (by omega), q2.1.2.1 a (by simp; omega) (by omega)]
      exact hR1.2.2.2
theorem s_X7_readOne {G : zG} {w : zW} {a b m p : Nat} {D : zD} (hw : zWf w) (hA : zRw a 80) (ha : a < 25) (hb : zHb b) (hm : m ≤ 80) (hp : p < m) (hD : zDok D) (hR : cRd w a b m p D) :
    zCi G mX7_readOne [.ref 25] w (fun r w' => r = zb ((rOne (w.1 (a + 1)) m p D).1 = true) ∧ zFr [25, b, b + 1, b + 2, b + 3, b + 4, b + 5, b + 6, b + 7, b + 8] [] [] w w' ∧ cRd w' a b m (rOne (w.1 (a + 1)) m p D).2.1 (rOne (w.1 (a + 1)) m p D).2.2) := by
  have hS : zSz (w.1 a 0) 80 := Or.inr ⟨m, hm, hR.2.2.2⟩
  have hFp : zFr [25] [] [] w (zsi w 25 2 (nI (p + 1))) := zFr_i (by decide) (by decide)
  have hR1 := cRd_f (q := p + 1) hR ha hb hFp (by rw [zsi_1, if_pos ⟨rfl, rfl⟩])
  have eO : rOne (w.1 (a + 1)) m p D = if w.1 (a + 1) p = 104 then rHand (w.1 (a + 1)) m p D else if w.1 (a + 1) p = 102 then rFin (w.1 (a + 1)) m p D else if w.1 (a + 1) p = 32 then (true, p + 1, D) else (false, p, D) := rfl
  rw [eO]
  refine zC_of (lo := [_, _]) kcX7_readOne (Nat.le_of_ble_eq_true rfl) rfl (fun X hX hE => ?_)
  refine zk_aload_n hX dX7_readOne_0 rfl ?_
  refine zk_getR hX dX7_readOne_1 flX7_9 k_25 z_25 hR.1.1 ?_
  refine zk_aload_n hX dX7_readOne_4 rfl ?_
  refine zk_getI hX dX7_readOne_5 flX7_19 k_25 z_25 ?_
  rw [hR.2.1]
  refine zk_V1i hX dX7_readOne_8 kcX8_get mlX7_37 viX8_get rfl (zRw_k0 hA) hA.1.2.1 (s_X8_get hA hw hS _) (Nat.le_of_ble_eq_true rfl) rfl ?_
  rw [zRget_in hR.2.2.2 (by omega) hp]
  refine zk_istore_n (lo' := [_, _]) hX dX7_readOne_11 (Nat.le_of_ble_eq_true rfl) rfl rfl ?_
  refine zk_iload_n hX dX7_readOne_12 rfl ?_
  refine zk_bipush (v := 104) hX dX7_readOne_13 (by decide) ?_
  refine zk_icmp_ne (tgt := 23) hX dX7_readOne_15 (by decide) (fun c15 => ?_) (fun c15 => ?_)
  · refine zk_iload_n hX dX7_readOne_23 rfl ?_
    refine zk_bipush (v := 102) hX dX7_readOne_24 (by decide) ?_
    refine zk_icmp_ne (tgt := 34) hX dX7_readOne_26 (by decide) (fun c26 => ?_) (fun c26 => ?_)
    · refine zk_iload_n hX dX7_readOne_34 rfl ?_
      refine zk_bipush (v := 32) hX dX7_readOne_35 (by decide) ?_
      refine zk_icmp_eq (tgt := 42) hX dX7_readOne_37 (by decide) (fun c37 => ?_) (fun c37 => ?_)
      · refine zk_aload_n hX dX7_readOne_42 rfl ?_
        refine zk_dup hX dX7_readOne_43 rfl ?_
        refine zk_getI hX dX7_readOne_44 flX7_19 k_25 z_25 ?_
        rw [hR.2.1]
        refine zk_iconst (v := 1) hX dX7_readOne_47 (by decide) ?_
        refine zk_iadd hX dX7_readOne_48 ?_
        rw [nI_1]
        refine zk_putI hX dX7_readOne_49 plX7_19 (fun h => by cases h) k_25 z_25 rfl rfl ?_
        refine zk_iconst (v := 1) hX dX7_readOne_52 (by decide) ?_
        refine zk_zret hX hE rfl ⟨rfl, rfl⟩ dX7_readOne_53 rfl ⟨_, rfl, ?_⟩
        rw [if_neg c15, if_neg c26, if_pos (by first | exact c37 | exact Decidable.not_not.mp c37)]
        exact ⟨(zb_t rfl).symm, zFr_s' hFp, hR1⟩
      · refine zk_iconst (v := 0) hX dX7_readOne_40 (by decide) ?_
        refine zk_zret hX hE rfl ⟨rfl, rfl⟩ dX7_readOne_41 rfl ⟨_, rfl, ?_⟩
        rw [if_neg c15, if_neg c26, if_neg c37]
        exact ⟨(zb_f (fun q => by cases q)).symm, zFr_r, hR⟩
    · refine zk_aload_n hX dX7_readOne_29 rfl ?_
      refine zk_V0ip hX dX7_readOne_30 kcX7_readFinger mlX7_44 viX7_readFinger rfl k_25 z_25 (s_X7_readFinger hw hA ha hb hm hp hD hR) (Nat.le_of_ble_eq_true rfl) rfl (fun r w2 q2 => ?_)
      refine zk_zret hX hE rfl ⟨rfl, rfl⟩ dX7_readOne_33 (by rw [q2.1]; simp [narrow, zb_and1]) ⟨_, rfl, ?_⟩
      rw [if_neg c15, if_pos (by first | exact c26 | exact Decidable.not_not.mp c26)]
      exact q2
  · refine zk_aload_n hX dX7_readOne_18 rfl ?_
    refine zk_V0ip hX dX7_readOne_19 kcX7_readHand mlX7_41 viX7_readHand rfl k_25 z_25 (s_X7_readHand hw hA ha hb hm hp hD hR) (Nat.le_of_ble_eq_true rfl) rfl (fun r w2 q2 => ?_)
    refine zk_zret hX hE rfl ⟨rfl, rfl⟩ dX7_readOne_22 (by rw [q2.1]; simp [narrow, zb_and1]) ⟨_, rfl, ?_⟩
    rw [if_pos (by first | exact c15 | exact Decidable.not_not.mp c15)]
    exact q2
theorem zFr_all {A : List Nat} {w w' : zW} (h : zFr A [] [] w w') {c : Nat} (hc : c ∉ A) : w'.1 c = w.1 c := by
  by_cases e : c = 166
  · rw [e]
    exact funext (fun i => h.2.2.2 i (by simp))
  · exact h.2.1 c hc e
theorem zFr_lng {A : List Nat} {w w' : zW} (h : zFr A [] [] w w') : w'.2.1 = w.2.1 := funext (fun c => h.2.2.1 c (by simp))
theorem zWf_r {w : zW} {j : Nat} {x : Option Nat} (h : zWf w) : zWf (zsr w 25 j x) := by
  intro k i hk
  rw [zsr_3, if_neg (fun q => hk q.1)]
  exact h k i hk
theorem s_X7_read {G : zG} {w : zW} {a b m : Nat} (hw : zWf w) (hA : zRw a 80) (ha : a < 25) (hb : zHb b) (hm : m ≤ 80) (hS : w.1 a 0 = nI m) :
    zCi G mX7_read [.ref 25, .ref a, .ref b] w (fun r w' => zWf w' ∧ (∀ c, c ∉ [25, b, b + 1, b + 2, b + 3, b + 4, b + 5, b + 6, b + 7, b + 8] → w'.1 c = w.1 c) ∧ w'.2.1 = w.2.1 ∧ r = (rAll (w.1 (a + 1)) m 81 0 dNil).1 ∧ (r = -9 → cHd w' b (rAll (w.1 (a + 1)) m 81 0 dNil).2)) := by
  have hbf := (zHb_f hb).1
  have h26 : 26 ≤ b := by rcases hb with rfl | rfl <;> decide
  have ha24 : a + 1 ≠ 25 := by
    intro e
    have := hA.1.2.1
    rw [show a = 24 by omega] at this
    exact absurd this (by decide +kernel)
  refine zC_of (lo := [_, _, _, _]) kcX7_read (Nat.le_of_ble_eq_true rfl) rfl (fun X hX hE => ?_)
  have loop : ∀ n i p D w1, i + n = 81 → zWf w1 → (∀ c, c ∉ [25, b, b + 1, b + 2, b + 3, b + 4, b + 5, b + 6, b + 7, b + 8] → w1.1 c = w.1 c) → w1.2.1 = w.2.1 → cRd w1 a b m p D → zDok D → p ≤ m → rAll (w.1 (a + 1)) m 81 0 dNil = rAll (w.1 (a + 1)) m n p D → zk0 G X mX7_read 24 [.ref 25, .ref a, .ref b, .int (nI i)] [] w1 := by
    intro n
    induction n with
    | zero =>
      intro i p D w1 hi hw1 g1 g2 hR hD hp he
      rw [he] at hE
      refine zk_iload_n hX dX7_read_24 rfl ?_
      refine zk_bipush (v := 80) hX dX7_read_25 (by decide) ?_
      refine zk_icmp_gt (tgt := 62) hX dX7_read_27 (by decide) (fun c27 => ?_) (fun c27 => ?_)
      rotate_left
      · exact absurd (nI_lt (a := 80) (by omega) (by omega)) c27
      refine zk_bipush (v := -9) hX dX7_read_62 (by decide) ?_
      refine zk_iret hX hE rfl ⟨rfl, rfl⟩ dX7_read_64 ⟨_, rfl, ?_⟩
      exact ⟨hw1, g1, g2, rfl, fun _ => hR.2.2.1⟩
    | succ n ih =>
      intro i p D w1 hi hw1 g1 g2 hR hD hp he
      have eT : w1.1 (a + 1) = w.1 (a + 1) := g1 (a + 1) (by simp; omega)
      have eA : rAll (w.1 (a + 1)) m (n + 1) p D = if p < m then (if (rOne (w.1 (a + 1)) m p D).1 = true then rAll (w.1 (a + 1)) m n (rOne (w.1 (a + 1)) m p D).2.1 (rOne (w.1 (a + 1)) m p D).2.2 else (nI (rOne (w.1 (a + 1)) m p D).2.1, (rOne (w.1 (a + 1)) m p D).2.2)) else (-9, D) := rfl
      by_cases hpm : p < m
      · have ok := rOne_ok (T := w.1 (a + 1)) hD hpm
        have c1 := s_X7_readOne (G := G) hw1 hA ha hb hm hpm hD hR
        rw [eT] at c1
        rw [if_pos hpm] at eA
        refine zk_iload_n hX dX7_read_24 rfl ?_
        refine zk_bipush (v := 80) hX dX7_read_25 (by decide) ?_
        refine zk_icmp_gt (tgt := 62) hX dX7_read_27 (by decide) (fun c27 => ?_) (fun c27 => ?_)
        · exact absurd c27 (nI_nlt (a := 80) (by omega) (by decide))
        refine zk_aload_n hX dX7_read_30 rfl ?_
        refine zk_getI hX dX7_read_31 flX7_19 k_25 z_25 ?_
        rw [hR.2.1]
        refine zk_aload_n hX dX7_read_34 rfl ?_
        refine zk_getR hX dX7_read_35 flX7_9 k_25 z_25 hR.1.1 ?_
        refine zk_getI hX dX7_read_38 flX7_28 (zRw_k0 hA) hA.1.2.1 ?_
        rw [hR.2.2.2]
        refine zk_icmp_ge (tgt := 62) hX dX7_read_41 (by decide) (fun c41 => ?_) (fun c41 => ?_)
        · exact absurd c41 (nI_ge hpm (by omega))
        refine zk_aload_n hX dX7_read_44 rfl ?_
        refine zk_V0ip hX dX7_read_45 kcX7_readOne mlX7_33 viX7_readOne rfl k_25 z_25 c1 (Nat.le_of_ble_eq_true rfl) rfl (fun r w2 q2 => ?_)
        obtain ⟨rfl, k1, k2⟩ := q2
        refine zk_if_neB (tgt := 56) hX dX7_read_48 (by decide) (fun c48 => ?_) (fun c48 => ?_)
        · refine zk_iinc (lo' := [_, _, _, _]) hX dX7_read_56 rfl (by first | exact zinc _ | exact rfl) (Nat.le_of_ble_eq_true rfl) rfl rfl ?_
          refine zk_goto (tgt := 24) hX dX7_read_59 (by decide) ?_
          rw [if_pos (by first | exact c48 | exact Decidable.not_not.mp c48)] at eA
          exact ih (i + 1) _ _ w2 (by omega) (zFr_wf k1 hw1) (fun c hc => (zFr_all k1 hc).trans (g1 c hc)) ((zFr_lng k1).trans g2) k2 ok.1 ok.2.1 (he.trans eA)
        · refine zk_aload_n hX dX7_read_51 rfl ?_
          refine zk_getI hX dX7_read_52 flX7_19 k_25 z_25 ?_
          rw [k2.2.1]
          refine zk_iret hX hE rfl ⟨rfl, rfl⟩ dX7_read_55 ⟨_, rfl, ?_⟩
          rw [if_neg c48] at eA
          rw [he, eA]
          exact ⟨zFr_wf k1 hw1, fun c hc => (zFr_all k1 hc).trans (g1 c hc), (zFr_lng k1).trans g2, rfl, fun _ => k2.2.2.1⟩
      · rw [if_neg hpm] at eA
        rw [he, eA] at hE
        refine zk_iload_n hX dX7_read_24 rfl ?_
        refine zk_bipush (v := 80) hX dX7_read_25 (by decide) ?_
        refine zk_icmp_gt (tgt := 62) hX dX7_read_27 (by decide) (fun c27 => ?_) (fun c27 => ?_)
        · exact absurd c27 (nI_nlt (a := 80) (by omega) (by decide))
        refine zk_aload_n hX dX7_read_30 rfl ?_
        refine zk_getI hX dX7_read_31 flX7_19 k_25 z_25 ?_
        rw [hR.2.1]
        refine zk_aload_n hX dX7_read_34 rfl ?_
        refine zk_getR hX dX7_read_35 flX7_9 k_25 z_25 hR.1.1 ?_
        refine zk_getI hX dX7_read_38 flX7_28 (zRw_k0 hA) hA.1.2.1 ?_
        rw [hR.2.2.2]
        refine zk_icmp_ge (tgt := 62) hX dX7_read_41 (by decide) (fun c41 => ?_) (fun c41 => ?_)
        rotate_left
        · exact absurd (nI_le (by omega) (by omega)) c41
        refine zk_bipush (v := -9) hX dX7_read_62 (by decide) ?_
        refine zk_iret hX hE rfl ⟨rfl, rfl⟩ dX7_read_64 ⟨_, rfl, ?_⟩
        exact ⟨hw1, g1, g2, rfl, fun _ => hR.2.2.1⟩
  have hr : ∀ x y c, (zsr (zsr w 25 0 (some x)) 25 1 (some y)).1 c = w.1 c := fun _ _ _ => rfl
  refine zk_aload_n hX dX7_read_0 rfl ?_
  refine zk_aload_n hX dX7_read_1 rfl ?_
  refine zk_putR hX dX7_read_2 plX7_9 (fun h => by cases h) k_25 z_25 rfl rfl ?_
  refine zk_aload_n hX dX7_read_5 rfl ?_
  refine zk_aload_n hX dX7_read_6 rfl ?_
  refine zk_putR hX dX7_read_7 plX7_15 (fun h => by cases h) k_25 z_25 rfl rfl ?_
  refine zk_aload_n hX dX7_read_10 rfl ?_
  refine zk_iconst (v := 0) hX dX7_read_11 (by decide) ?_
  refine zk_putI hX dX7_read_12 plX7_19 (fun h => by cases h) k_25 z_25 rfl rfl ?_
  refine zk_aload_n hX dX7_read_15 rfl ?_
  refine zk_getR hX dX7_read_16 flX7_15 k_25 z_25 rfl ?_
  refine zk_V0vp hX dX7_read_19 kcX2_clear mlX7_23 viX2_clear rfl (zHb_k (i := 0) hb (by decide)) (zHb_f hb).1.2.1 (s_X2_clear hb) (Nat.le_of_ble_eq_true rfl) rfl (fun w2 q2 => ?_)
  refine zk_iconst (v := 0) hX dX7_read_22 (by decide) ?_
  refine zk_istore_n (lo' := [_, _, _, _]) hX dX7_read_23 (Nat.le_of_ble_eq_true rfl) rfl rfl ?_
  have hF := zFr_t (zFr_s' q2.1 (A' := [25, b])) (zFr_r (A := [25, b]) (B := []) (F := []))
  have e0 : ∀ c, c ∉ [25, b] → w2.1 c = w.1 c := fun c hc => (zFr_all hF hc).trans (show (zsi (zsr (zsr w 25 0 (some a)) 25 1 (some b)) 25 2 0).1 c = (zsr (zsr w 25 0 (some a)) 25 1 (some b)).1 c from zsi_o (by simp at hc; exact hc.1))
  refine loop 81 0 0 dNil w2 rfl (zFr_wf q2.1 (zWf_i (zWf_r (zWf_r hw)))) (fun c hc => e0 c (by simp at hc ⊢; omega)) ((zFr_lng q2.1).trans rfl) ⟨⟨?_, ?_⟩, ?_, q2.2, ?_⟩ dNil_ok (Nat.zero_le _) rfl
  · rw [q2.1.1]
    rfl
  · rw [q2.1.1]
    rfl
  · rw [zFr_all q2.1 (by simp; omega), zsi_1, if_pos ⟨rfl, rfl⟩]
    rfl
  · rw [e0 a (by simp; omega)]
    exact hS

