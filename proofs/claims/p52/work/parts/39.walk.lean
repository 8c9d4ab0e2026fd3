/-- the end of a walk -/
def cWk (w : zW) (E : Nat → Nat → Prop) (O : Nat → Bool) (p N : Nat) (q : Int32) : Prop := (O p = false ∧ ∀ v, v < 4096 → w.1 148 v = if O v = true then -1 else -2) ∨
  (O p = true ∧ ∃ F Q n h, zBI E O p N F Q n h ∧ cBF w F O Q n ∧ (h = n ∨ ∃ b, q = nI b ∧ b < 4096 ∧ zvis F b = true))
theorem s_X10_walk {G : zG} {w : zW} {D : zD} {O : Nat → Bool} {p : Nat} {q : Int32} (hw : zWf w) (hD : zDok D) (hH : cHd w 26 D) (hSt : cStep w D) (hN : zpr (zsp D) (dJ D) ≤ 4096) (hO : ∀ v, v < 4096 → w.1 148 v = if O v = true then -1 else -2) (hON : ∀ v, O v = true → v < zpr (zsp D) (dJ D)) (hp : p < 4096) (hq : q = -9 ∨ ∃ b, q = nI b ∧ b < 4096) :
    zCv G mX10_walk [.ref 147, .ref 131, .ref 26, .int (nI p), .int q] w (fun w' => zFr [147, 148, 149] [] [] w w' ∧ (∀ i, i ≠ 2 → w'.1 147 i = w.1 147 i) ∧ cWk w' (zadj (zsp D) (dJ D)) O p (zpr (zsp D) (dJ D)) q) := by
  have h6 := hD.1.2.2
  have hpos : ∀ j, j < dJ D → 0 < zsp D j := fun j hj => (zsp_b hD hj).1
  generalize eN : zpr (zsp D) (dJ D) = N at *
  have h4096 : (4096 : Int32) = nI 4096 := rfl
  have farq : ∀ w1, zWf w1 → ∃ r, zEi G mX10_farOf [.ref 147, .int q] w1 r w1 ∧ ((q = -9 ∧ r = -2) ∨ ∃ b, q = nI b ∧ b < 4096 ∧ r = w1.1 148 b) := by
    intro w1 hw1
    rcases hq with rfl | ⟨b, rfl, hb⟩
    · exact ⟨_, s_X10_farOf_n, Or.inl ⟨rfl, rfl⟩⟩
    · exact ⟨_, s_X10_farOf hw1 hb, Or.inr ⟨b, rfl, hb, rfl⟩⟩
  refine zC_of (lo := [_, _, _, _, _, _, _, _, _, _, _, _]) kcX10_walk (Nat.le_of_ble_eq_true rfl) rfl (fun X hX hE => ?_)
  have loop : ∀ m h w1 F Q n (a b c d e f : Value), h + m = N → zFr [147, 148, 149] [] [] w w1 → (∀ i, i ≠ 2 → w1.1 147 i = w.1 147 i) → O p = true → zBI (zadj (zsp D) (dJ D)) O p N F Q n h → cBF w1 F O Q n → zk0 G X mX10_walk 14 [.ref 147, .ref 131, .ref 26, .int (nI p), .int q, .int (nI h), a, b, c, d, e, f] [] w1 := by
    intro m
    induction m with
    | zero =>
      intro h w1 F Q n a b c d e f hm hF g0 hOp B1 B2
      have hw1 := zFr_wf hF hw
      have hn : n ≤ N := by rw [B1.1.1]; exact zcnt_le _ _
      have e1 : h = n := by have := B1.1.2.1; omega
      refine zk_iload hX dX10_walk_14 rfl ?_
      refine zk_aload_n hX dX10_walk_16 rfl ?_
      refine zk_getI hX dX10_walk_17 flX10_53 k_147 z_147 ?_
      rw [B2.2.2]
      refine zk_icmp_ge (tgt := 163) hX dX10_walk_20 (by decide) (fun c20 => ?_) (fun c20 => ?_)
      rotate_left
      · exact absurd (nI_le (by omega) (by omega)) c20
      refine zk_vret hX hE rfl ⟨rfl, rfl⟩ dX10_walk_163 ⟨rfl, ?_⟩
      exact ⟨hF, g0, Or.inr ⟨hOp, F, Q, n, h, B1, B2, Or.inl e1⟩⟩
    | succ m ih =>
      intro h w1 F Q n a b c d e f hm hF g0 hOp B1 B2
      have hw1 := zFr_wf hF hw
      have hn : n ≤ N := by rw [B1.1.1]; exact zcnt_le _ _
      have hH1 : ∀ w2, zFr [147, 148, 149] [] [] w w2 → cHd w2 26 D := fun w2 h2 => cHd_o hH (fun a q1 q2 => h2.2.1 a (by simp; omega) (by omega))
      have hS1 : ∀ w2, zFr [147, 148, 149] [] [] w w2 → cStep w2 D := fun w2 h2 j hj => by rw [h2.2.1 132 (by decide) (by decide), h2.2.1 133 (by decide) (by decide)]; exact hSt j hj
      by_cases hhn : h < n
      · obtain ⟨r, cr, hr⟩ := farq w1 hw1
        have hQN := (B1.2.1 h hhn).1
        have hQv := (B1.2.1 h hhn).2
        have hfQ : w1.1 148 (Q h) = nI (zfd F (Q h)) := by
          rw [B2.1 (Q h) (by omega)]
          unfold ffar
          rw [zvis_some hQv]
        have hcn := (B1.2.2.2.2.1 _ _ (zvis_some hQv)).2
        have stopq : ¬ r < 0 → ∃ b, q = nI b ∧ b < 4096 ∧ zvis F b = true := by
          intro hr0
          rcases hr with ⟨_, rfl⟩ | ⟨b, hb1, hb2, rfl⟩
          · exact absurd (by decide) hr0
          · refine ⟨b, hb1, hb2, ?_⟩
            rw [B2.1 b hb2] at hr0
            unfold ffar at hr0
            unfold zvis
            cases eb : F b with
            | none =>
              rw [eb] at hr0
              exfalso
              apply hr0
              show (if O b = true then (-1 : Int32) else -2) < 0
              split <;> decide
            | some _ => rfl
        -- the neighbours
        have nb : ∀ y j w2 F2 Q2 n2 (d e f : Value), j + y = dJ D → zFr [147, 148, 149] [] [] w w2 → (∀ i, i ≠ 2 → w2.1 147 i = w.1 147 i) → cBJ w2 (zadj (zsp D) (dJ D)) O p N h (Q h) (zfd F (Q h)) F2 Q2 n2 →
            (∀ j', j' < j → ∀ v, ((v = Q h + zsf (zsp D) (dJ D) (j' + 1) ∧ zdg (zsp D) (dJ D) (Q h) j' + 1 < zsp D j') ∨ (Q h = v + zsf (zsp D) (dJ D) (j' + 1) ∧ 0 < zdg (zsp D) (dJ D) (Q h) j')) → O v = true → zvis F2 v = true) →
            zk0 G X mX10_walk 63 [.ref 147, .ref 131, .ref 26, .int (nI p), .int q, .int (nI h), .int (nI (Q h)), .int (nI (zfd F (Q h) + 1)), .int (nI j), d, e, f] [] w2 := by
          intro y
          induction y with
          | zero =>
            intro j w2 F2 Q2 n2 d e f hj hF2 g2 J K
            obtain rfl : j = dJ D := by omega
            have hw2 := zFr_wf hF2 hw
            obtain ⟨J1, J2, J3, J4, J5⟩ := J
            refine zk_iload hX dX10_walk_63 rfl ?_
            refine zk_aload_n hX dX10_walk_65 rfl ?_
            refine zk_getI hX dX10_walk_66 flX10_61 k_26 z_26 ?_
            rw [(hH1 w2 hF2).1.2.2]
            refine zk_icmp_ge (tgt := 157) hX dX10_walk_69 (by decide) (fun c69 => ?_) (fun c69 => ?_)
            rotate_left
            · exact absurd (nI_le (Nat.le_refl _) (by omega)) c69
            refine zk_iinc (lo' := [_, _, _, _, _, _, _, _, _, _, _, _]) hX dX10_walk_157 rfl (by first | exact zinc _ | exact rfl) (Nat.le_of_ble_eq_true rfl) rfl rfl ?_
            refine zk_goto (tgt := 14) hX dX10_walk_160 (by decide) ?_
            refine ih (h + 1) w2 F2 Q2 n2 _ _ _ _ _ _ (by omega) hF2 g2 hOp (zBI_next J1 J2 (fun v hE hOv _ => ?_)) J5
            obtain ⟨j', hj', hc⟩ := hE
            rw [J3] at hc
            exact K j' hj' v hc hOv
          | succ y ih2 =>
            intro j w2 F2 Q2 n2 d e f hj hF2 g2 J K
            have hw2 := zFr_wf hF2 hw
            have hSj := hS1 w2 hF2 j (by omega)
            have hsp := zsp_b hD (show j < dJ D by omega)
            have hst := zsf_pos (sp := zsp D) (m := dJ D) (j := j + 1) hpos
            have hle : zsf (zsp D) (dJ D) (j + 1) ≤ N := by
              have h1 := zpr_sf (zsp D) (show j + 1 ≤ dJ D by omega)
              have h2 : 0 < zpr (zsp D) (j + 1) := zpr_pos (fun k hk => hpos k (by omega))
              rw [eN] at h1
              rw [h1]
              exact Nat.le_mul_of_pos_left _ h2
            have edg := zdg_sf (zsp D) (m := dJ D) (j := j) (Q h) (by omega)
            have hdl : zdg (zsp D) (dJ D) (Q h) j < zsp D j := zdg_lt _ hsp.1 (by omega)
            -- behind both
            have next : ∀ w3 F3 Q3 n3 (d e f : Int32), zFr [147, 148, 149] [] [] w w3 → (∀ i, i ≠ 2 → w3.1 147 i = w.1 147 i) → cBJ w3 (zadj (zsp D) (dJ D)) O p N h (Q h) (zfd F (Q h)) F3 Q3 n3 → (∀ a, zvis F2 a = true → zvis F3 a = true) →
                (∀ v, ((v = Q h + zsf (zsp D) (dJ D) (j + 1) ∧ zdg (zsp D) (dJ D) (Q h) j + 1 < zsp D j) ∨ (Q h = v + zsf (zsp D) (dJ D) (j + 1) ∧ 0 < zdg (zsp D) (dJ D) (Q h) j)) → O v = true → zvis F3 v = true) →
                zk0 G X mX10_walk 151 [.ref 147, .ref 131, .ref 26, .int (nI p), .int q, .int (nI h), .int (nI (Q h)), .int (nI (zfd F (Q h) + 1)), .int (nI j), .int d, .int e, .int f] [] w3 := by
              intro w3 F3 Q3 n3 d e f hF3 g3 J3 M3 K3
              refine zk_iinc (lo' := [_, _, _, _, _, _, _, _, _, _, _, _]) hX dX10_walk_151 rfl (by first | exact zinc _ | exact rfl) (Nat.le_of_ble_eq_true rfl) rfl rfl ?_
              refine zk_goto (tgt := 63) hX dX10_walk_154 (by decide) ?_
              refine ih2 (j + 1) w3 F3 Q3 n3 _ _ _ (by omega) hF3 g3 J3 (fun j' hj' v hc ho => ?_)
              rcases Nat.lt_succ_iff_lt_or_eq.mp hj' with g | rfl
              · exact M3 v (K j' g v hc ho)
              · exact K3 v hc ho
            -- the way up, behind the way down
            have up : ∀ w3 F3 Q3 n3, zFr [147, 148, 149] [] [] w w3 → (∀ i, i ≠ 2 → w3.1 147 i = w.1 147 i) → cBJ w3 (zadj (zsp D) (dJ D)) O p N h (Q h) (zfd F (Q h)) F3 Q3 n3 → (∀ a, zvis F2 a = true → zvis F3 a = true) →
                (∀ v, (Q h = v + zsf (zsp D) (dJ D) (j + 1) ∧ 0 < zdg (zsp D) (dJ D) (Q h) j) → O v = true → zvis F3 v = true) →
                zk0 G X mX10_walk 131 [.ref 147, .ref 131, .ref 26, .int (nI p), .int q, .int (nI h), .int (nI (Q h)), .int (nI (zfd F (Q h) + 1)), .int (nI j), .int (nI (zsf (zsp D) (dJ D) (j + 1))), .int (nI (zsp D j)), .int (nI (zdg (zsp D) (dJ D) (Q h) j))] [] w3 := by
              intro w3 F3 Q3 n3 hF3 g3 J3 M3 K3
              have hw3 := zFr_wf hF3 hw
              by_cases hu : zdg (zsp D) (dJ D) (Q h) j + 1 < zsp D j
              · have hup := zdg_up (sp := zsp D) (m := dJ D) (i := Q h) (j := j) hpos (by omega) (by rw [eN]; exact hQN) hu
                rw [eN] at hup
                have cc := s_X10_come (G := G) hw3 hN J3 hup ⟨j, by omega, Or.inl ⟨rfl, hu⟩⟩
                refine zk_iload hX dX10_walk_131 rfl ?_
                refine zk_iload hX dX10_walk_133 rfl ?_
                refine zk_iconst (v := 1) hX dX10_walk_135 (by decide) ?_
                refine zk_isub hX dX10_walk_136 ?_
                rw [show (1 : Int32) = nI 1 from rfl, nI_sub hsp.1]
                refine zk_icmp_ge (tgt := 151) hX dX10_walk_137 (by decide) (fun c137 => ?_) (fun c137 => ?_)
                · exact absurd c137 (nI_ge (by omega) (by omega))
                refine zk_aload_n hX dX10_walk_140 rfl ?_
                refine zk_iload hX dX10_walk_141 rfl ?_
                refine zk_iload hX dX10_walk_143 rfl ?_
                refine zk_iadd hX dX10_walk_145 ?_
                rw [nI_add]
                refine zk_iload hX dX10_walk_146 rfl ?_
                refine zk_V2vp hX dX10_walk_148 kcX10_come mlX10_57 viX10_come rfl k_147 z_147 cc (Nat.le_of_ble_eq_true rfl) rfl (fun w4 q4 => ?_)
                obtain ⟨a1, a2, F4, Q4, n4, a3, a4, a5⟩ := q4
                refine next w4 F4 Q4 n4 _ _ _ (zFr_t hF3 a1) (fun i hi => (a2 i hi).trans (g3 i hi)) a3 (fun a ha => a5 a (M3 a ha)) (fun v hc ho => ?_)
                rcases hc with hc | hc
                · rw [hc.1] at ho ⊢
                  exact a4 ho
                · exact a5 v (K3 v hc ho)
              · refine zk_iload hX dX10_walk_131 rfl ?_
                refine zk_iload hX dX10_walk_133 rfl ?_
                refine zk_iconst (v := 1) hX dX10_walk_135 (by decide) ?_
                refine zk_isub hX dX10_walk_136 ?_
                rw [show (1 : Int32) = nI 1 from rfl, nI_sub hsp.1]
                refine zk_icmp_ge (tgt := 151) hX dX10_walk_137 (by decide) (fun c137 => ?_) (fun c137 => ?_)
                rotate_left
                · exact absurd (nI_le (by omega) (by omega)) c137
                refine next w3 F3 Q3 n3 _ _ _ hF3 g3 J3 M3 (fun v hc ho => ?_)
                rcases hc with hc | hc
                · exact absurd hc.2 hu
                · exact K3 v hc ho
            have down : zk0 G X mX10_walk 105 [.ref 147, .ref 131, .ref 26, .int (nI p), .int q, .int (nI h), .int (nI (Q h)), .int (nI (zfd F (Q h) + 1)), .int (nI j), .int (nI (zsf (zsp D) (dJ D) (j + 1))), .int (nI (zsp D j)), f] [] w2 := by
              by_cases hu : 0 < zdg (zsp D) (dJ D) (Q h) j
              · have hge : zsf (zsp D) (dJ D) (j + 1) ≤ Q h := by
                  rw [edg] at hu
                  rcases Nat.lt_or_ge (Q h) (zsf (zsp D) (dJ D) (j + 1)) with g | g
                  · rw [Nat.div_eq_of_lt g, Nat.zero_mod] at hu
                    omega
                  · exact g
                have cc := s_X10_come (G := G) (v := Q h - zsf (zsp D) (dJ D) (j + 1)) hw2 hN J (by omega) ⟨j, by omega, Or.inr ⟨by omega, hu⟩⟩
                refine zk_iload hX dX10_walk_105 rfl ?_
                refine zk_iload hX dX10_walk_107 rfl ?_
                refine zk_idiv hX dX10_walk_109 (nI_ne0 hst (by omega)) ?_
                rw [nI_div (by omega) (by omega)]
                refine zk_iload hX dX10_walk_110 rfl ?_
                refine zk_irem hX dX10_walk_112 (nI_ne0 hsp.1 (by omega)) ?_
                rw [nI_rem (Nat.lt_of_le_of_lt (Nat.div_le_self _ _) (by omega)) (by omega), ← edg]
                refine zk_istore (lo' := [_, _, _, _, _, _, _, _, _, _, _, _]) hX dX10_walk_113 (Nat.le_of_ble_eq_true rfl) rfl rfl ?_
                refine zk_iload hX dX10_walk_115 rfl ?_
                refine zk_if_le (tgt := 131) hX dX10_walk_117 (by decide) (fun c117 => ?_) (fun c117 => ?_)
                · exact absurd c117 (nI_nle hu (by omega))
                refine zk_aload_n hX dX10_walk_120 rfl ?_
                refine zk_iload hX dX10_walk_121 rfl ?_
                refine zk_iload hX dX10_walk_123 rfl ?_
                refine zk_isub hX dX10_walk_125 ?_
                rw [nI_sub hge]
                refine zk_iload hX dX10_walk_126 rfl ?_
                refine zk_V2vp hX dX10_walk_128 kcX10_come mlX10_57 viX10_come rfl k_147 z_147 cc (Nat.le_of_ble_eq_true rfl) rfl (fun w4 q4 => ?_)
                obtain ⟨a1, a2, F4, Q4, n4, a3, a4, a5⟩ := q4
                refine up w4 F4 Q4 n4 (zFr_t hF2 a1) (fun i hi => (a2 i hi).trans (g2 i hi)) a3 a5 (fun v hc ho => ?_)
                have ev : v = Q h - zsf (zsp D) (dJ D) (j + 1) := by omega
                rw [ev] at ho ⊢
                exact a4 ho
              · refine zk_iload hX dX10_walk_105 rfl ?_
                refine zk_iload hX dX10_walk_107 rfl ?_
                refine zk_idiv hX dX10_walk_109 (nI_ne0 hst (by omega)) ?_
                rw [nI_div (by omega) (by omega)]
                refine zk_iload hX dX10_walk_110 rfl ?_
                refine zk_irem hX dX10_walk_112 (nI_ne0 hsp.1 (by omega)) ?_
                rw [nI_rem (Nat.lt_of_le_of_lt (Nat.div_le_self _ _) (by omega)) (by omega), ← edg]
                refine zk_istore (lo' := [_, _, _, _, _, _, _, _, _, _, _, _]) hX dX10_walk_113 (Nat.le_of_ble_eq_true rfl) rfl rfl ?_
                refine zk_iload hX dX10_walk_115 rfl ?_
                refine zk_if_le (tgt := 131) hX dX10_walk_117 (by decide) (fun c117 => ?_) (fun c117 => ?_)
                rotate_left
                · exact absurd (nI_le (b := 0) (by omega) (by decide)) c117
                exact up w2 F2 Q2 n2 hF2 g2 J (fun _ h => h) (fun v hc _ => absurd hc.2 hu)
            refine zk_iload hX dX10_walk_63 rfl ?_
            refine zk_aload_n hX dX10_walk_65 rfl ?_
            refine zk_getI hX dX10_walk_66 flX10_61 k_26 z_26 ?_
            rw [(hH1 w2 hF2).1.2.2]
            refine zk_icmp_ge (tgt := 157) hX dX10_walk_69 (by decide) (fun c69 => ?_) (fun c69 => ?_)
            · exact absurd c69 (nI_ge (by omega) (by omega))
            refine zk_aload_n hX dX10_walk_72 rfl ?_
            refine zk_getR hX dX10_walk_73 flX10_66 k_131 z_131 (hw2 _ _ (by decide) |>.trans r_131_2) ?_
            refine zk_iload hX dX10_walk_76 rfl ?_
            refine zk_ialdE hX dX10_walk_78 rfl k_132 z_132 (by first | assumption | omega) rfl ?_
            rw [hSj.1]
            refine zk_istore (lo' := [_, _, _, _, _, _, _, _, _, _, _, _]) hX dX10_walk_79 (Nat.le_of_ble_eq_true rfl) rfl rfl ?_
            refine zk_aload_n hX dX10_walk_81 rfl ?_
            refine zk_getR hX dX10_walk_82 flX10_69 k_131 z_131 (hw2 _ _ (by decide) |>.trans r_131_3) ?_
            refine zk_iload hX dX10_walk_85 rfl ?_
            refine zk_ialdE hX dX10_walk_87 rfl k_133 z_133 (by first | assumption | omega) rfl ?_
            rw [hSj.2]
            refine zk_istore (lo' := [_, _, _, _, _, _, _, _, _, _, _, _]) hX dX10_walk_88 (Nat.le_of_ble_eq_true rfl) rfl rfl ?_
            refine zk_iload hX dX10_walk_90 rfl ?_
            refine zk_iconst (v := 1) hX dX10_walk_92 (by decide) ?_
            refine zk_icmp_lt (tgt := 151) hX dX10_walk_93 (by decide) (fun c93 => ?_) (fun c93 => ?_)
            · exact absurd c93 (nI_nlt (b := 1) hst (by omega))
            refine zk_iload hX dX10_walk_96 rfl ?_
            refine zk_iconst (v := 1) hX dX10_walk_98 (by decide) ?_
            refine zk_icmp_ge (tgt := 105) hX dX10_walk_99 (by decide) (fun c99 => ?_) (fun c99 => ?_)
            rotate_left
            · exact absurd (nI_le (a := 1) hsp.1 (by omega)) c99
            exact down
        refine zk_iload hX dX10_walk_14 rfl ?_
        refine zk_aload_n hX dX10_walk_16 rfl ?_
        refine zk_getI hX dX10_walk_17 flX10_53 k_147 z_147 ?_
        rw [B2.2.2]
        refine zk_icmp_ge (tgt := 163) hX dX10_walk_20 (by decide) (fun c20 => ?_) (fun c20 => ?_)
        · exact absurd c20 (nI_ge hhn (by omega))
        refine zk_iload hX dX10_walk_23 rfl ?_
        refine zk_sipush (v := 4096) hX dX10_walk_25 (by decide) ?_
        refine zk_icmp_ge (tgt := 163) hX dX10_walk_28 (by decide) (fun c28 => ?_) (fun c28 => ?_)
        · exact absurd c28 (nI_ge (b := 4096) (by omega) (by decide))
        refine zk_aload_n hX dX10_walk_31 rfl ?_
        refine zk_iload hX dX10_walk_32 rfl ?_
        refine zk_V1i hX dX10_walk_34 kcX10_farOf mlX10_49 viX10_farOf rfl k_147 z_147 cr (Nat.le_of_ble_eq_true rfl) rfl ?_
        refine zk_if_ge (tgt := 163) hX dX10_walk_37 (by decide) (fun c37 => ?_) (fun c37 => ?_)
        · refine zk_vret hX hE rfl ⟨rfl, rfl⟩ dX10_walk_163 ⟨rfl, ?_⟩
          exact ⟨hF, g0, Or.inr ⟨hOp, F, Q, n, h, B1, B2, Or.inr (stopq (Int32.not_lt.mpr c37))⟩⟩
        · refine zk_aload_n hX dX10_walk_40 rfl ?_
          refine zk_getR hX dX10_walk_41 flX10_15 k_147 z_147 (hw1 _ _ (by decide) |>.trans r_147_1) ?_
          refine zk_iload hX dX10_walk_44 rfl ?_
          refine zk_ialdE hX dX10_walk_46 rfl k_149 z_149 (by first | assumption | omega) rfl ?_
          rw [B2.2.1 h hhn]
          refine zk_istore (lo' := [_, _, _, _, _, _, _, _, _, _, _, _]) hX dX10_walk_47 (Nat.le_of_ble_eq_true rfl) rfl rfl ?_
          refine zk_aload_n hX dX10_walk_49 rfl ?_
          refine zk_getR hX dX10_walk_50 flX10_9 k_147 z_147 (hw1 _ _ (by decide) |>.trans r_147_0) ?_
          refine zk_iload hX dX10_walk_53 rfl ?_
          refine zk_ialdE hX dX10_walk_55 rfl k_148 z_148 (by first | assumption | omega) rfl ?_
          rw [hfQ]
          refine zk_iconst (v := 1) hX dX10_walk_56 (by decide) ?_
          refine zk_iadd hX dX10_walk_57 ?_
          rw [nI_1]
          refine zk_istore (lo' := [_, _, _, _, _, _, _, _, _, _, _, _]) hX dX10_walk_58 (Nat.le_of_ble_eq_true rfl) rfl rfl ?_
          refine zk_iconst (v := 0) hX dX10_walk_60 (by decide) ?_
          refine zk_istore (lo' := [_, _, _, _, _, _, _, _, _, _, _, _]) hX dX10_walk_61 (Nat.le_of_ble_eq_true rfl) rfl rfl ?_
          exact nb (dJ D) 0 w1 F Q n _ _ _ (by omega) hF g0 ⟨B1, hhn, rfl, rfl, B2⟩ (fun j' hj' => absurd hj' (by omega))
      · have e1 : h = n := by have := B1.1.2.1; omega
        refine zk_iload hX dX10_walk_14 rfl ?_
        refine zk_aload_n hX dX10_walk_16 rfl ?_
        refine zk_getI hX dX10_walk_17 flX10_53 k_147 z_147 ?_
        rw [B2.2.2]
        refine zk_icmp_ge (tgt := 163) hX dX10_walk_20 (by decide) (fun c20 => ?_) (fun c20 => ?_)
        rotate_left
        · exact absurd (nI_le (by omega) (by omega)) c20
        refine zk_vret hX hE rfl ⟨rfl, rfl⟩ dX10_walk_163 ⟨rfl, ?_⟩
        exact ⟨hF, g0, Or.inr ⟨hOp, F, Q, n, h, B1, B2, Or.inl e1⟩⟩
  have hw0 : zWf (zsi w 147 2 0) := zWf_i hw
  have e148 : (zsi w 147 2 0).1 148 = w.1 148 := zsi_o (by decide)
  by_cases hOp : O p = true
  · have cc := s_X10_come_y (G := G) (w := zsi w 147 2 0) (v := p) (c := 0) (n := 0) hw0 hp (by decide) (by rw [zsi_1, if_pos ⟨rfl, rfl⟩]; rfl) (by rw [e148, hO p hp, if_pos hOp])
    have B1 := zBI_0 (E := zadj (zsp D) (dJ D)) (O := O) (p := p) (N := N) (Q := fun _ => p) (hON p hOp) rfl
    have hFr : zFr [147, 148, 149] [] [] w (zcome (zsi w 147 2 0) p 0 0) := zFr_t (zFr_t (zFr_t (zFr_i (by decide) (by decide)) (zFr_i (by decide) (by decide))) (zFr_i (by decide) (by decide))) (zFr_i (by decide) (by decide))
    have B2 : cBF (zcome (zsi w 147 2 0) p 0 0) (zst0 p) O (fun _ => p) 1 := by
      refine ⟨fun v hv => ?_, fun i hi => ?_, ?_⟩
      · unfold zcome
        rw [zsi_o (by decide), zsi_o (by decide), zsi_1]
        unfold ffar zst0
        by_cases qv : v = p
        · rw [if_pos ⟨rfl, qv⟩, if_pos qv]
        · rw [if_neg (fun z => qv z.2), if_neg qv, e148]
          exact hO v hv
      · obtain rfl : i = 0 := by omega
        unfold zcome
        rw [zsi_o (by decide), zsi_1, if_pos ⟨rfl, rfl⟩]
      · unfold zcome
        rw [zsi_1, if_pos ⟨rfl, rfl⟩]
    have g0 : ∀ i, i ≠ 2 → (zcome (zsi w 147 2 0) p 0 0).1 147 i = w.1 147 i := by
      intro i hi
      unfold zcome
      rw [zsi_1, if_neg (fun z => hi z.2), zsi_o (by decide), zsi_o (by decide), zsi_1, if_neg (fun z => hi z.2)]
    have fin := fun a b c d e f => loop N 0 _ (zst0 p) (fun _ => p) 1 a b c d e f (by omega) hFr g0 hOp B1 B2
    refine zk_aload_n hX dX10_walk_0 rfl ?_
    refine zk_iconst (v := 0) hX dX10_walk_1 (by decide) ?_
    refine zk_putI hX dX10_walk_2 plX10_53 (fun h => by cases h) k_147 z_147 rfl rfl ?_
    refine zk_aload_n hX dX10_walk_5 rfl ?_
    refine zk_iload_n hX dX10_walk_6 rfl ?_
    refine zk_iconst (v := 0) hX dX10_walk_7 (by decide) ?_
    refine zk_V2v hX dX10_walk_8 kcX10_come mlX10_57 viX10_come rfl k_147 z_147 cc (Nat.le_of_ble_eq_true rfl) rfl ?_
    refine zk_iconst (v := 0) hX dX10_walk_11 (by decide) ?_
    refine zk_istore (lo' := [_, _, _, _, _, _, _, _, _, _, _, _]) hX dX10_walk_12 (Nat.le_of_ble_eq_true rfl) rfl rfl ?_
    exact fin _ _ _ _ _ _
  · have cc := s_X10_come_n (G := G) (w := zsi w 147 2 0) (v := p) hw0 0 hp (by rw [e148, hO p hp, if_neg hOp]; decide)
    refine zk_aload_n hX dX10_walk_0 rfl ?_
    refine zk_iconst (v := 0) hX dX10_walk_1 (by decide) ?_
    refine zk_putI hX dX10_walk_2 plX10_53 (fun h => by cases h) k_147 z_147 rfl rfl ?_
    refine zk_aload_n hX dX10_walk_5 rfl ?_
    refine zk_iload_n hX dX10_walk_6 rfl ?_
    refine zk_iconst (v := 0) hX dX10_walk_7 (by decide) ?_
    refine zk_V2v hX dX10_walk_8 kcX10_come mlX10_57 viX10_come rfl k_147 z_147 cc (Nat.le_of_ble_eq_true rfl) rfl ?_
    refine zk_iconst (v := 0) hX dX10_walk_11 (by decide) ?_
    refine zk_istore (lo' := [_, _, _, _, _, _, _, _, _, _, _, _]) hX dX10_walk_12 (Nat.le_of_ble_eq_true rfl) rfl rfl ?_
    refine zk_iload hX dX10_walk_14 rfl ?_
    refine zk_aload_n hX dX10_walk_16 rfl ?_
    refine zk_getI hX dX10_walk_17 flX10_53 k_147 z_147 ?_
    rw [zsi_1, if_pos ⟨rfl, rfl⟩]
    refine zk_icmp_ge (tgt := 163) hX dX10_walk_20 (by decide) (fun c20 => ?_) (fun c20 => ?_)
    rotate_left
    · exact absurd (by decide) c20
    refine zk_vret hX hE rfl ⟨rfl, rfl⟩ dX10_walk_163 ⟨rfl, ?_⟩
    refine ⟨zFr_i (by decide) (by decide), fun i hi => by rw [zsi_1, if_neg (fun z => hi z.2)], Or.inl ⟨by simpa using hOp, fun v hv => by rw [e148]; exact hO v hv⟩⟩

