/-- rows of the first F fingers -/
def cRow (w : zW) (D : zD) (o : Int32) (F : Nat) : Prop := ∀ i, i < zN_ D o F → w.1 134 i = ldv (zwrL zno (rL D o F i)) (rA D o F i) ∧ w.2.1 135 i = zT (zdkL zno (rL D o F i)) ∧ w.2.1 136 i = zLo (zdkL zno (rL D o F i))
theorem zdkL_app2 (L M : List zPt) : zdkL zno (L ++ M) = zun (zdkL zno L) (zdkL zno M) := by rw [zdkL_app, zdkL_un]
theorem zdivm {i n t : Nat} (h : i < n * t) : i / t < n ∧ i % t < t ∧ i / t * t + i % t = i := by
  have ht : 0 < t := by
    rcases Nat.eq_zero_or_pos t with q | q
    · rw [q] at h; omega
    · exact q
  refine ⟨Nat.div_lt_of_lt_mul (by rwa [Nat.mul_comm]), Nat.mod_lt _ ht, ?_⟩
  rw [Nat.mul_comm]
  exact Nat.div_add_mod i t
theorem zLc1 {k : Nat} (h : k = 135 ∨ k = 136 ∨ k = 137 ∨ k = 138) : zLc k 4096 := by rcases h with rfl | rfl | rfl | rfl <;> exact ⟨by decide, by decide +kernel⟩
theorem zLc2 {k : Nat} (h : k = 141 ∨ k = 142) : zLc k 750 := by rcases h with rfl | rfl <;> exact ⟨by decide, by decide +kernel⟩
theorem zLc3 {k : Nat} (h : k = 143 ∨ k = 144) : zLc k 125 := by rcases h with rfl | rfl <;> exact ⟨by decide, by decide +kernel⟩
theorem s_X6_combine {G : zG} {w : zW} {D : zD} (hw : zWf w) (hH : cHd w 26 D) (hD : zDok D) (hO : cOwn w D) (hN : zpr (zsp D) (dJ D) ≤ 4096) (o : Int32) :
    zCv G mX6_combine [.ref 131, .ref 26, .int o] w (fun w' => zFr [131, 134] [135, 136, 146] [] w w' ∧ (∀ i, i ≠ 1 → w'.1 131 i = w.1 131 i) ∧ w'.1 131 1 = nI (zN_ D o (dF D)) ∧ cRow w' D o (dF D)) := by
  have h6 := hD.1.2.2
  have hF6 := hD.1.2.1
  have hlw := zLw_len (D := D) (o := o) (dW D)
  have hlw2 := zwrL_le (zLw D o (dW D)) zno
  have hW2 := hD.1.1
  refine zC_of (lo := [_, _, _, _]) kcX6_combine (Nat.le_of_ble_eq_true rfl) rfl (fun X hX hE => ?_)
  have loop : ∀ z f w1, f + z = dF D → zFr [131, 134] [135, 136, 146] [] w w1 → (∀ i, i ≠ 1 → w1.1 131 i = w.1 131 i) → w1.1 131 1 = nI (zN_ D o f) → cRow w1 D o f → zk0 G X mX6_combine 56 [.ref 131, .ref 26, .int o, .int (nI f)] [] w1 := by
    intro z
    induction z with
    | zero =>
      intro f w1 hf hFr g1 g2 g3
      obtain rfl : f = dF D := by omega
      have hw1 := zFr_wf hFr hw
      have hH1 : cHd w1 26 D := cHd_o hH (fun a h1 h2 => hFr.2.1 a (by simp; omega) (by omega))
      refine zk_iload_n hX dX6_combine_56 rfl ?_
      refine zk_aload_n hX dX6_combine_57 rfl ?_
      refine zk_getI hX dX6_combine_58 flX6_75 k_26 z_26 ?_
      rw [hH1.1.2.1]
      refine zk_icmp_ge (tgt := 180) hX dX6_combine_61 (by decide) (fun c61 => ?_) (fun c61 => ?_)
      rotate_left
      · exact absurd (nI_le (Nat.le_refl _) (by omega)) c61
      refine zk_vret hX hE rfl ⟨rfl, rfl⟩ dX6_combine_180 ⟨rfl, ?_⟩
      exact ⟨hFr, g1, g2, g3⟩
    | succ z ih =>
      intro f w1 hf hFr g1 g2 g3
      have hw1 := zFr_wf hFr hw
      have hff : f < dF D := by omega
      have hH1 : cHd w1 26 D := cHd_o hH (fun a h1 h2 => hFr.2.1 a (by simp; omega) (by omega))
      have hHf := hH1.2.2.1 f hff
      have hO1 : cOwn w1 D := cOwn_f hO hFr (by decide)
      have hof := hO1 f hff
      have ht := zown_pos (D := D) (f := f)
      have ht1 := zown_le hD hff
      have hn1 := zN_le hD (o := o) (F := f) (by omega) hN
      have hn2 := zN_le hD (o := o) (F := f + 1) (by omega) hN
      have hns := zN_s hD (o := o) hff
      have k82 : (o = -1 ∨ o = nI (dO D f)) → zk0 G X mX6_combine 82 [.ref 131, .ref 26, .int o, .int (nI f)] [] w1 := by
        intro q
        have qa : zac D o f = true := by unfold zac; exact decide_eq_true q
        rw [if_pos qa] at hns
        rw [hns] at hn2
        have cj := s_X6_joinLoads (G := G) (w := w1) (n := zN_ D o f) (f := f) (t := zown D f) (Wr := fun i => zwrL zno (rL D o f i)) (Ar := fun i => rA D o f i) (Wo := fun c => zwrL zno (oL D f c)) (Ao := fun c => oA D f c) (Wn := fun i c => zwrL zno (rL D o f i ++ oL D f c)) (Sr := fun i => zdkL zno (rL D o f i)) (So := fun c => zdkL zno (oL D f c)) hw1 (by omega) ht ht1 hn2 hn1 hof.1 (fun i hi => ⟨(g3 i hi).1, rA_le hD (by omega), (g3 i hi).2⟩) (fun c hc => ⟨(hof.2 c hc).1, oA_le hD hff, (hof.2 c hc).2⟩) (fun i c _ _ => zwr_app)
        have fin : ∀ w2 w3 w4, zFr [134] [] [] w1 w2 → (∀ i c, i < zN_ D o f → c < zown D f → w2.1 134 (i * zown D f + c) = ldv (zwrL zno (rL D o f i ++ oL D f c)) (rA D o f i + oA D f c)) → zFr [] [135] [] w2 w3 → (∀ i c, i < zN_ D o f → c < zown D f → w3.2.1 135 (i * zown D f + c) = w2.2.1 135 i ||| w2.2.1 141 (f * 125 + c)) → zFr [] [136] [] w3 w4 → (∀ i c, i < zN_ D o f → c < zown D f → w4.2.1 136 (i * zown D f + c) = w3.2.1 136 i ||| w3.2.1 142 (f * 125 + c)) → zk0 G X mX6_combine 56 [.ref 131, .ref 26, .int o, .int (nI (f + 1))] [] (zsi w4 131 1 (nI (zN_ D o f * zown D f))) := by
          intro w2 w3 w4 a1 a2 b1 b2 d1 d2
          have tot : zFr [134] [135, 136] [] w1 w4 := zFr_t (zFr_t (zFr_s a1 (by decide)) (zFr_s b1 (by decide))) (zFr_s d1 (by decide))
          refine ih (f + 1) _ (by omega) (zFr_t (zFr_t hFr (zFr_s tot (by decide))) (zFr_i (by decide) (by decide))) (fun i hi => ?_) ?_ (fun i hi => ?_)
          · rw [zsi_1, if_neg (fun z => hi z.2), tot.2.1 131 (by decide) (by decide)]
            exact g1 i hi
          · rw [zsi_1, if_pos ⟨rfl, rfl⟩, hns]
          · rw [hns] at hi
            obtain ⟨e1, e2, e3⟩ := zdivm hi
            generalize i / zown D f = p at *
            generalize i % zown D f = c at *
            subst e3
            have r := g3 p e1
            have s := hof.2 c e2
            rw [rL_a hD hff qa e2, rA_a hD hff qa e2]
            refine ⟨?_, ?_, ?_⟩
            · rw [zsi_o (by decide), d1.2.1 134 (by decide) (by decide), b1.2.1 134 (by decide) (by decide)]
              exact a2 p c e1 e2
            · show w4.2.1 135 _ = _
              rw [d1.2.2.1 135 (by decide), b2 p c e1 e2, a1.2.2.1 135 (by decide), a1.2.2.1 141 (by decide), r.2.1, s.2.1, zdkL_app2, zT_or]
            · show w4.2.1 136 _ = _
              rw [d2 p c e1 e2, b1.2.2.1 136 (by decide), b1.2.2.1 142 (by decide), a1.2.2.1 136 (by decide), a1.2.2.1 142 (by decide), r.2.2, s.2.2, zdkL_app2, zLo_or]
        refine zk_aload_n hX dX6_combine_82 rfl ?_
        refine zk_getI hX dX6_combine_83 flX6_9 k_131 z_131 ?_
        rw [g2]
        refine zk_aload_n hX dX6_combine_86 rfl ?_
        refine zk_getR hX dX6_combine_87 flX6_39 k_131 z_131 (hw1 _ _ (by decide) |>.trans r_131_9) ?_
        refine zk_iload_n hX dX6_combine_90 rfl ?_
        refine zk_ialdE hX dX6_combine_91 rfl k_139 z_139 (by first | assumption | omega) rfl ?_
        rw [hof.1]
        refine zk_imul hX dX6_combine_92 ?_
        rw [nI_mul]
        refine zk_sipush (v := 4096) hX dX6_combine_93 (by decide) ?_
        refine zk_icmp_le (tgt := 100) hX dX6_combine_96 (by decide) (fun c96 => ?_) (fun c96 => ?_)
        rotate_left
        · exact absurd (nI_le (b := 4096) hn2 (by decide)) c96
        refine zk_aload_n hX dX6_combine_100 rfl ?_
        refine zk_aload_n hX dX6_combine_101 rfl ?_
        refine zk_getI hX dX6_combine_102 flX6_9 k_131 z_131 ?_
        rw [g2]
        refine zk_iload_n hX dX6_combine_105 rfl ?_
        refine zk_V2vp hX dX6_combine_106 kcX6_joinLoads mlX6_124 viX6_joinLoads rfl k_131 z_131 cj (Nat.le_of_ble_eq_true rfl) rfl (fun w2 q2 => ?_)
        have hw2 := zFr_wf q2.1 hw1
        have e131 : w2.1 131 = w1.1 131 := q2.1.2.1 131 (by decide) (by decide)
        have e139 : w2.1 139 = w1.1 139 := q2.1.2.1 139 (by decide) (by decide)
        refine zk_aload_n hX dX6_combine_109 rfl ?_
        refine zk_getR hX dX6_combine_110 flX6_26 k_131 z_131 (hw2 _ _ (by decide) |>.trans r_131_5) ?_
        refine zk_aload_n hX dX6_combine_113 rfl ?_
        refine zk_getI hX dX6_combine_114 flX6_9 k_131 z_131 ?_
        rw [e131, g2]
        refine zk_aload_n hX dX6_combine_117 rfl ?_
        refine zk_getR hX dX6_combine_118 flX6_45 k_131 z_131 (hw2 _ _ (by decide) |>.trans r_131_11) ?_
        refine zk_iload_n hX dX6_combine_121 rfl ?_
        refine zk_bipush (v := 125) hX dX6_combine_122 (by decide) ?_
        rw [show (125 : Int32) = nI 125 from rfl]
        refine zk_imul hX dX6_combine_124 ?_
        rw [nI_mul]
        refine zk_aload_n hX dX6_combine_125 rfl ?_
        refine zk_getR hX dX6_combine_126 flX6_39 k_131 z_131 (hw2 _ _ (by decide) |>.trans r_131_9) ?_
        refine zk_iload_n hX dX6_combine_129 rfl ?_
        refine zk_ialdE hX dX6_combine_130 rfl k_139 z_139 (by first | assumption | omega) rfl ?_
        rw [e139, hof.1]
        refine zk_S5vp hX dX6_combine_131 kcX6_join mlX6_128 smX6_join rfl (s_X6_join (zLc1 (Or.inl rfl)) (zLc2 (Or.inl rfl)) (by decide) (by decide) ht hn2 hn1 ht1 (by omega)) (Nat.le_of_ble_eq_true rfl) rfl (fun w3 q3 => ?_)
        have hw3 := zFr_wf q3.1 hw2
        have f131 : w3.1 131 = w1.1 131 := (q3.1.2.1 131 (by decide) (by decide)).trans e131
        have f139 : w3.1 139 = w1.1 139 := (q3.1.2.1 139 (by decide) (by decide)).trans e139
        refine zk_aload_n hX dX6_combine_134 rfl ?_
        refine zk_getR hX dX6_combine_135 flX6_30 k_131 z_131 (hw3 _ _ (by decide) |>.trans r_131_6) ?_
        refine zk_aload_n hX dX6_combine_138 rfl ?_
        refine zk_getI hX dX6_combine_139 flX6_9 k_131 z_131 ?_
        rw [f131, g2]
        refine zk_aload_n hX dX6_combine_142 rfl ?_
        refine zk_getR hX dX6_combine_143 flX6_48 k_131 z_131 (hw3 _ _ (by decide) |>.trans r_131_12) ?_
        refine zk_iload_n hX dX6_combine_146 rfl ?_
        refine zk_bipush (v := 125) hX dX6_combine_147 (by decide) ?_
        rw [show (125 : Int32) = nI 125 from rfl]
        refine zk_imul hX dX6_combine_149 ?_
        rw [nI_mul]
        refine zk_aload_n hX dX6_combine_150 rfl ?_
        refine zk_getR hX dX6_combine_151 flX6_39 k_131 z_131 (hw3 _ _ (by decide) |>.trans r_131_9) ?_
        refine zk_iload_n hX dX6_combine_154 rfl ?_
        refine zk_ialdE hX dX6_combine_155 rfl k_139 z_139 (by first | assumption | omega) rfl ?_
        rw [f139, hof.1]
        refine zk_S5vp hX dX6_combine_156 kcX6_join mlX6_128 smX6_join rfl (s_X6_join (zLc1 (Or.inr (Or.inl rfl))) (zLc2 (Or.inr rfl)) (by decide) (by decide) ht hn2 hn1 ht1 (by omega)) (Nat.le_of_ble_eq_true rfl) rfl (fun w4 q4 => ?_)
        have hw4 := zFr_wf q4.1 hw3
        have h131 : w4.1 131 = w1.1 131 := (q4.1.2.1 131 (by decide) (by decide)).trans f131
        have h139 : w4.1 139 = w1.1 139 := (q4.1.2.1 139 (by decide) (by decide)).trans f139
        refine zk_aload_n hX dX6_combine_159 rfl ?_
        refine zk_dup hX dX6_combine_160 rfl ?_
        refine zk_getI hX dX6_combine_161 flX6_9 k_131 z_131 ?_
        rw [h131, g2]
        refine zk_aload_n hX dX6_combine_164 rfl ?_
        refine zk_getR hX dX6_combine_165 flX6_39 k_131 z_131 (hw4 _ _ (by decide) |>.trans r_131_9) ?_
        refine zk_iload_n hX dX6_combine_168 rfl ?_
        refine zk_ialdE hX dX6_combine_169 rfl k_139 z_139 (by first | assumption | omega) rfl ?_
        rw [h139, hof.1]
        refine zk_imul hX dX6_combine_170 ?_
        rw [nI_mul]
        refine zk_putI hX dX6_combine_171 plX6_9 (fun h => by cases h) k_131 z_131 rfl rfl ?_
        refine zk_iinc (lo' := [_, _, _, _]) hX dX6_combine_174 rfl (by first | exact zinc _ | exact rfl) (Nat.le_of_ble_eq_true rfl) rfl rfl ?_
        refine zk_goto (tgt := 56) hX dX6_combine_177 (by decide) ?_
        exact fin w2 w3 w4 q2.1 q2.2 q3.1 q3.2 q4.1 q4.2
      refine zk_iload_n hX dX6_combine_56 rfl ?_
      refine zk_aload_n hX dX6_combine_57 rfl ?_
      refine zk_getI hX dX6_combine_58 flX6_75 k_26 z_26 ?_
      rw [hH1.1.2.1]
      refine zk_icmp_ge (tgt := 180) hX dX6_combine_61 (by decide) (fun c61 => ?_) (fun c61 => ?_)
      · exact absurd c61 (nI_ge (by omega) (by omega))
      refine zk_iload_n hX dX6_combine_64 rfl ?_
      refine zk_iconst (v := -1) hX dX6_combine_65 (by decide) ?_
      refine zk_icmp_eq (tgt := 82) hX dX6_combine_66 (by decide) (fun c66 => ?_) (fun c66 => ?_)
      · exact k82 (by grind)
      · refine zk_aload_n hX dX6_combine_69 rfl ?_
        refine zk_getR hX dX6_combine_70 flX6_121 k_26 z_26 (hw1 _ _ (by decide) |>.trans r_26_4) ?_
        refine zk_iload_n hX dX6_combine_73 rfl ?_
        refine zk_ialdE hX dX6_combine_74 rfl k_28 z_28 (by first | assumption | omega) rfl ?_
        rw [hHf.1]
        refine zk_iload_n hX dX6_combine_75 rfl ?_
        refine zk_icmp_eq (tgt := 82) hX dX6_combine_76 (by decide) (fun c76 => ?_) (fun c76 => ?_)
        · exact k82 (by grind)
        · refine zk_goto (tgt := 174) hX dX6_combine_79 (by decide) ?_
          refine zk_iinc (lo' := [_, _, _, _]) hX dX6_combine_174 rfl (by first | exact zinc _ | exact rfl) (Nat.le_of_ble_eq_true rfl) rfl rfl ?_
          refine zk_goto (tgt := 56) hX dX6_combine_177 (by decide) ?_
          have qa : ¬ zac D o f = true := by unfold zac; simp only [decide_eq_true_eq]; grind
          rw [if_neg qa, Nat.mul_one] at hns
          refine ih (f + 1) w1 (by omega) hFr g1 (by rw [hns]; exact g2) (fun i hi => ?_)
          rw [hns] at hi
          rw [rL_n hD hff qa, rA_n hD hff qa]
          exact g3 i hi
  refine zk_aload_n hX dX6_combine_0 rfl ?_
  refine zk_getR hX dX6_combine_1 flX6_22 k_131 z_131 (hw _ _ (by decide) |>.trans r_131_4) ?_
  refine zk_iconst (v := 0) hX dX6_combine_4 (by decide) ?_
  refine zk_aload_n hX dX6_combine_5 rfl ?_
  refine zk_iload_n hX dX6_combine_6 rfl ?_
  refine zk_aload_n hX dX6_combine_7 rfl ?_
  refine zk_getR hX dX6_combine_8 flX6_63 k_131 z_131 (hw _ _ (by decide) |>.trans r_131_16) ?_
  refine zk_V2i hX dX6_combine_11 kcX2_wristCells mlX6_117 viX2_wristCells rfl k_26 z_26 (s_X2_wristCells hw hH hD zCe146 _) (Nat.le_of_ble_eq_true rfl) rfl ?_
  refine zk_if_le (tgt := 21) hX dX6_combine_14 (by decide) (fun c14 => ?_) (fun c14 => ?_)
  · refine zk_iconst (v := 0) hX dX6_combine_21 (by decide) ?_
    refine zk_bastE hX dX6_combine_22 (nI_k 0 rfl) k_134 z_134 (by first | assumption | omega) rfl ?_
    first | rw [show vp_nar .byte (-1) = -1 by decide] | rw [show vp_nar .byte 0 = 0 by decide]
    refine zk_aload_n hX dX6_combine_23 rfl ?_
    refine zk_getR hX dX6_combine_24 flX6_26 k_131 z_131 ((zWf_of hw rfl (w' := zsetS w 146 (zdkL zno (zLw D o (dW D))))) _ _ (by decide) |>.trans r_131_5) ?_
    refine zk_iconst (v := 0) hX dX6_combine_27 (by decide) ?_
    refine zk_aload_n hX dX6_combine_28 rfl ?_
    refine zk_getR hX dX6_combine_29 flX6_63 k_131 z_131 ((zWf_of hw rfl (w' := zsetS w 146 (zdkL zno (zLw D o (dW D))))) _ _ (by decide) |>.trans r_131_16) ?_
    refine zk_getL hX dX6_combine_32 flX6_112 k_146 z_146 ?_
    rw [show (zsi (zsetS w 146 (zdkL zno (zLw D o (dW D)))) 134 0 _).2.1 146 0 = zT (zdkL zno (zLw D o (dW D))) from zsetS_has.1]
    refine zk_lastE hX dX6_combine_35 (nI_k 0 rfl) k_135 z_135 (by first | assumption | omega) rfl ?_
    refine zk_aload_n hX dX6_combine_36 rfl ?_
    refine zk_getR hX dX6_combine_37 flX6_30 k_131 z_131 ((zWf_of hw rfl (w' := zsetS w 146 (zdkL zno (zLw D o (dW D))))) _ _ (by decide) |>.trans r_131_6) ?_
    refine zk_iconst (v := 0) hX dX6_combine_40 (by decide) ?_
    refine zk_aload_n hX dX6_combine_41 rfl ?_
    refine zk_getR hX dX6_combine_42 flX6_63 k_131 z_131 ((zWf_of hw rfl (w' := zsetS w 146 (zdkL zno (zLw D o (dW D))))) _ _ (by decide) |>.trans r_131_16) ?_
    refine zk_getL hX dX6_combine_45 flX6_115 k_146 z_146 ?_
    rw [zsl_o (by omega)]
    rw [show (zsi (zsetS w 146 (zdkL zno (zLw D o (dW D)))) 134 0 _).2.1 146 1 = zLo (zdkL zno (zLw D o (dW D))) from zsetS_has.2]
    refine zk_lastE hX dX6_combine_48 (nI_k 0 rfl) k_136 z_136 (by first | assumption | omega) rfl ?_
    refine zk_aload_n hX dX6_combine_49 rfl ?_
    refine zk_iconst (v := 1) hX dX6_combine_50 (by decide) ?_
    refine zk_putI hX dX6_combine_51 plX6_9 (fun h => by cases h) k_131 z_131 rfl rfl ?_
    refine zk_iconst (v := 0) hX dX6_combine_54 (by decide) ?_
    refine zk_istore_n (lo' := [_, _, _, _]) hX dX6_combine_55 (Nat.le_of_ble_eq_true rfl) rfl rfl ?_
    refine loop (dF D) 0 _ (by omega) (zFr_t (zFr_t (zFr_t (zFr_t (zFr_S (by decide)) (zFr_i (by decide) (by decide))) (zFr_l (by decide))) (zFr_l (by decide))) (zFr_i (by decide) (by decide))) (fun i hi => by rw [zsi_1, if_neg (fun z => hi z.2), zsl_1, zsl_1, zsi_o (by decide), zsetS_1]) (by rw [zsi_1, if_pos ⟨rfl, rfl⟩]; rfl) (fun i hi => ?_)
    obtain rfl : i = 0 := by have hi : i < 1 := hi; omega
    refine ⟨?_, ?_, ?_⟩
    · rw [zsi_o (by decide), zsl_1, zsl_1, zsi_1, if_pos ⟨rfl, rfl⟩]
      show _ = ldv (zwrL zno (zLw D o (dW D))) 0
      unfold ldv
      first
        | (rw [if_pos (Nat.pos_of_ne_zero (fun q => c14 (by rw [q]; decide)))])
        | (rw [if_neg (fun q => nI_nle q (by omega) c14)]; rfl)
    · rw [zsi_2, zsl_o (by omega), zsl_2, if_pos ⟨rfl, rfl⟩]
      rfl
    · rw [zsi_2, zsl_2, if_pos ⟨rfl, rfl⟩]
      rfl
  · refine zk_iconst (v := -1) hX dX6_combine_17 (by decide) ?_
    refine zk_goto (tgt := 22) hX dX6_combine_18 (by decide) ?_
    refine zk_bastE hX dX6_combine_22 (nI_k 0 rfl) k_134 z_134 (by first | assumption | omega) rfl ?_
    first | rw [show vp_nar .byte (-1) = -1 by decide] | rw [show vp_nar .byte 0 = 0 by decide]
    refine zk_aload_n hX dX6_combine_23 rfl ?_
    refine zk_getR hX dX6_combine_24 flX6_26 k_131 z_131 ((zWf_of hw rfl (w' := zsetS w 146 (zdkL zno (zLw D o (dW D))))) _ _ (by decide) |>.trans r_131_5) ?_
    refine zk_iconst (v := 0) hX dX6_combine_27 (by decide) ?_
    refine zk_aload_n hX dX6_combine_28 rfl ?_
    refine zk_getR hX dX6_combine_29 flX6_63 k_131 z_131 ((zWf_of hw rfl (w' := zsetS w 146 (zdkL zno (zLw D o (dW D))))) _ _ (by decide) |>.trans r_131_16) ?_
    refine zk_getL hX dX6_combine_32 flX6_112 k_146 z_146 ?_
    rw [show (zsi (zsetS w 146 (zdkL zno (zLw D o (dW D)))) 134 0 _).2.1 146 0 = zT (zdkL zno (zLw D o (dW D))) from zsetS_has.1]
    refine zk_lastE hX dX6_combine_35 (nI_k 0 rfl) k_135 z_135 (by first | assumption | omega) rfl ?_
    refine zk_aload_n hX dX6_combine_36 rfl ?_
    refine zk_getR hX dX6_combine_37 flX6_30 k_131 z_131 ((zWf_of hw rfl (w' := zsetS w 146 (zdkL zno (zLw D o (dW D))))) _ _ (by decide) |>.trans r_131_6) ?_
    refine zk_iconst (v := 0) hX dX6_combine_40 (by decide) ?_
    refine zk_aload_n hX dX6_combine_41 rfl ?_
    refine zk_getR hX dX6_combine_42 flX6_63 k_131 z_131 ((zWf_of hw rfl (w' := zsetS w 146 (zdkL zno (zLw D o (dW D))))) _ _ (by decide) |>.trans r_131_16) ?_
    refine zk_getL hX dX6_combine_45 flX6_115 k_146 z_146 ?_
    rw [zsl_o (by omega)]
    rw [show (zsi (zsetS w 146 (zdkL zno (zLw D o (dW D)))) 134 0 _).2.1 146 1 = zLo (zdkL zno (zLw D o (dW D))) from zsetS_has.2]
    refine zk_lastE hX dX6_combine_48 (nI_k 0 rfl) k_136 z_136 (by first | assumption | omega) rfl ?_
    refine zk_aload_n hX dX6_combine_49 rfl ?_
    refine zk_iconst (v := 1) hX dX6_combine_50 (by decide) ?_
    refine zk_putI hX dX6_combine_51 plX6_9 (fun h => by cases h) k_131 z_131 rfl rfl ?_
    refine zk_iconst (v := 0) hX dX6_combine_54 (by decide) ?_
    refine zk_istore_n (lo' := [_, _, _, _]) hX dX6_combine_55 (Nat.le_of_ble_eq_true rfl) rfl rfl ?_
    refine loop (dF D) 0 _ (by omega) (zFr_t (zFr_t (zFr_t (zFr_t (zFr_S (by decide)) (zFr_i (by decide) (by decide))) (zFr_l (by decide))) (zFr_l (by decide))) (zFr_i (by decide) (by decide))) (fun i hi => by rw [zsi_1, if_neg (fun z => hi z.2), zsl_1, zsl_1, zsi_o (by decide), zsetS_1]) (by rw [zsi_1, if_pos ⟨rfl, rfl⟩]; rfl) (fun i hi => ?_)
    obtain rfl : i = 0 := by have hi : i < 1 := hi; omega
    refine ⟨?_, ?_, ?_⟩
    · rw [zsi_o (by decide), zsl_1, zsl_1, zsi_1, if_pos ⟨rfl, rfl⟩]
      show _ = ldv (zwrL zno (zLw D o (dW D))) 0
      unfold ldv
      first
        | (rw [if_pos (Nat.pos_of_ne_zero (fun q => c14 (by rw [q]; decide)))])
        | (rw [if_neg (fun q => nI_nle q (by omega) c14)]; rfl)
    · rw [zsi_2, zsl_o (by omega), zsl_2, if_pos ⟨rfl, rfl⟩]
      rfl
    · rw [zsi_2, zsl_2, if_pos ⟨rfl, rfl⟩]
      rfl

