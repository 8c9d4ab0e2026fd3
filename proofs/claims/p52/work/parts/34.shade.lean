/-- what the rows throw -/
def cThr (w : zW) (D : zD) (o : Int32) (z u v F : Nat) : Prop := ∀ i, i < zN_ D o F → w.2.1 137 i = zT (zthr z u v (zdkL zno (rL D o F i))) ∧ w.2.1 138 i = zLo (zthr z u v (zdkL zno (rL D o F i)))
theorem s_X6_shade {G : zG} {w : zW} {D : zD} {l z u v : Nat} (hw : zWf w) (hH : cHd w 26 D) (hD : zDok D) (hO : cOwn w D) (hN : zpr (zsp D) (dJ D) ≤ 4096) (hLp : zLp l) (hL : zLm w l z u v) (ho : zlok z u v) (o : Int32) :
    zCv G mX6_shade [.ref 131, .ref 26, .ref l, .int o] w (fun w' => zFr [] [137, 138, 143, 144, 146] [] w w' ∧ cThr w' D o z u v (dF D)) := by
  have hF6 := hD.1.2.1
  refine zC_of (lo := [_, _, _, _, _, _, _]) kcX6_shade (Nat.le_of_ble_eq_true rfl) rfl (fun X hX hE => ?_)
  have loop : ∀ y f w1 (b : Value), f + y = dF D → zFr [] [137, 138, 143, 144, 146] [] w w1 → cThr w1 D o z u v f → zk0 G X mX6_shade 64 [.ref 131, .ref 26, .ref l, .int o, .int (nI (zN_ D o f)), .int (nI f), b] [] w1 := by
    intro y
    induction y with
    | zero =>
      intro f w1 b hf hFr g3
      obtain rfl : f = dF D := by omega
      have hw1 := zFr_wf hFr hw
      have hH1 : cHd w1 26 D := cHd_o hH (fun a h1 h2 => hFr.2.1 a (by simp) (by omega))
      refine zk_iload hX dX6_shade_64 rfl ?_
      refine zk_aload_n hX dX6_shade_66 rfl ?_
      refine zk_getI hX dX6_shade_67 flX6_75 k_26 z_26 ?_
      rw [hH1.1.2.1]
      refine zk_icmp_ge (tgt := 235) hX dX6_shade_70 (by decide) (fun c70 => ?_) (fun c70 => ?_)
      rotate_left
      · exact absurd (nI_le (Nat.le_refl _) (by omega)) c70
      refine zk_vret hX hE rfl ⟨rfl, rfl⟩ dX6_shade_235 ⟨rfl, ?_⟩
      exact ⟨hFr, g3⟩
    | succ y ih =>
      intro f w1 b hf hFr g3
      have hw1 := zFr_wf hFr hw
      have hff : f < dF D := by omega
      have hH1 : cHd w1 26 D := cHd_o hH (fun a h1 h2 => hFr.2.1 a (by simp) (by omega))
      have hHf := hH1.2.2.1 f hff
      have hO1 : cOwn w1 D := cOwn_f hO hFr (by decide)
      have hof := hO1 f hff
      have ht := zown_pos (D := D) (f := f)
      have ht1 := zown_le hD hff
      have hn1 := zN_le hD (o := o) (F := f) (by omega) hN
      have hn2 := zN_le hD (o := o) (F := f + 1) (by omega) hN
      have hns := zN_s hD (o := o) hff
      have k92 : (o = -1 ∨ o = nI (dO D f)) → zk0 G X mX6_shade 92 [.ref 131, .ref 26, .ref l, .int o, .int (nI (zN_ D o f)), .int (nI f), b] [] w1 := by
        intro q
        have qa : zac D o f = true := by unfold zac; exact decide_eq_true q
        rw [if_pos qa] at hns
        rw [hns] at hn2
        have out : ∀ w2, zFr [] [143, 144, 146] [] w1 w2 → (∀ n, n < zown D f → w2.2.1 143 n = zT (zthr z u v (zdkL zno (oL D f n))) ∧ w2.2.1 144 n = zLo (zthr z u v (zdkL zno (oL D f n)))) → zk0 G X mX6_shade 175 [.ref 131, .ref 26, .ref l, .int o, .int (nI (zN_ D o f)), .int (nI f), .int (nI (zown D f))] [] w2 := by
          intro w2 k1 k2
          have hw2 := zFr_wf k1 hw1
          have e139 : w2.1 139 = w1.1 139 := k1.2.1 139 (by decide) (by decide)
          refine zk_aload_n hX dX6_shade_175 rfl ?_
          refine zk_getR hX dX6_shade_176 flX6_33 k_131 z_131 (hw2 _ _ (by decide) |>.trans r_131_7) ?_
          refine zk_iload hX dX6_shade_179 rfl ?_
          refine zk_aload_n hX dX6_shade_181 rfl ?_
          refine zk_getR hX dX6_shade_182 flX6_51 k_131 z_131 (hw2 _ _ (by decide) |>.trans r_131_13) ?_
          refine zk_iconst (v := 0) hX dX6_shade_185 (by decide) ?_
          refine zk_aload_n hX dX6_shade_186 rfl ?_
          refine zk_getR hX dX6_shade_187 flX6_39 k_131 z_131 (hw2 _ _ (by decide) |>.trans r_131_9) ?_
          refine zk_iload hX dX6_shade_190 rfl ?_
          refine zk_ialdE hX dX6_shade_192 rfl k_139 z_139 (by first | assumption | omega) rfl ?_
          rw [e139, hof.1]
          refine zk_S5vp hX dX6_shade_193 kcX6_join mlX6_128 smX6_join rfl (s_X6_join (fr := 0) (zLc1 (Or.inr (Or.inr (Or.inl rfl)))) (zLc3 (Or.inl rfl)) (by decide) (by decide) ht hn2 hn1 ht1 (by omega)) (Nat.le_of_ble_eq_true rfl) rfl (fun w3 q3 => ?_)
          have hw3 := zFr_wf q3.1 hw2
          have f139 : w3.1 139 = w1.1 139 := (q3.1.2.1 139 (by decide) (by decide)).trans e139
          refine zk_aload_n hX dX6_shade_196 rfl ?_
          refine zk_getR hX dX6_shade_197 flX6_36 k_131 z_131 (hw3 _ _ (by decide) |>.trans r_131_8) ?_
          refine zk_iload hX dX6_shade_200 rfl ?_
          refine zk_aload_n hX dX6_shade_202 rfl ?_
          refine zk_getR hX dX6_shade_203 flX6_54 k_131 z_131 (hw3 _ _ (by decide) |>.trans r_131_14) ?_
          refine zk_iconst (v := 0) hX dX6_shade_206 (by decide) ?_
          refine zk_aload_n hX dX6_shade_207 rfl ?_
          refine zk_getR hX dX6_shade_208 flX6_39 k_131 z_131 (hw3 _ _ (by decide) |>.trans r_131_9) ?_
          refine zk_iload hX dX6_shade_211 rfl ?_
          refine zk_ialdE hX dX6_shade_213 rfl k_139 z_139 (by first | assumption | omega) rfl ?_
          rw [f139, hof.1]
          refine zk_S5vp hX dX6_shade_214 kcX6_join mlX6_128 smX6_join rfl (s_X6_join (fr := 0) (zLc1 (Or.inr (Or.inr (Or.inr rfl)))) (zLc3 (Or.inr rfl)) (by decide) (by decide) ht hn2 hn1 ht1 (by omega)) (Nat.le_of_ble_eq_true rfl) rfl (fun w4 q4 => ?_)
          have hw4 := zFr_wf q4.1 hw3
          have h139 : w4.1 139 = w1.1 139 := (q4.1.2.1 139 (by decide) (by decide)).trans f139
          refine zk_iload hX dX6_shade_217 rfl ?_
          refine zk_aload_n hX dX6_shade_219 rfl ?_
          refine zk_getR hX dX6_shade_220 flX6_39 k_131 z_131 (hw4 _ _ (by decide) |>.trans r_131_9) ?_
          refine zk_iload hX dX6_shade_223 rfl ?_
          refine zk_ialdE hX dX6_shade_225 rfl k_139 z_139 (by first | assumption | omega) rfl ?_
          rw [h139, hof.1]
          refine zk_imul hX dX6_shade_226 ?_
          rw [nI_mul, ← hns]
          refine zk_istore (lo' := [_, _, _, _, _, _, _]) hX dX6_shade_227 (Nat.le_of_ble_eq_true rfl) rfl rfl ?_
          refine zk_iinc (lo' := [_, _, _, _, _, _, _]) hX dX6_shade_229 rfl (by first | exact zinc _ | exact rfl) (Nat.le_of_ble_eq_true rfl) rfl rfl ?_
          refine zk_goto (tgt := 64) hX dX6_shade_232 (by decide) ?_
          refine ih (f + 1) w4 _ (by omega) (zFr_t hFr (zFr_t (zFr_t (zFr_s k1 (by decide)) (zFr_s q3.1 (by decide))) (zFr_s q4.1 (by decide)))) (fun i hi => ?_)
          rw [hns] at hi
          obtain ⟨e1, e2, e3⟩ := zdivm hi
          generalize i / zown D f = p at *
          generalize i % zown D f = c at *
          subst e3
          have r := g3 p e1
          have s := k2 c e2
          rw [rL_a hD hff qa e2, zdkL_app2, zthr_un]
          refine ⟨?_, ?_⟩
          · rw [q4.1.2.2.1 137 (by decide), q3.2 p c e1 e2, k1.2.2.1 137 (by decide), r.1, Nat.zero_add, s.1, zT_or]
          · rw [q4.2 p c e1 e2, q3.1.2.2.1 138 (by decide), q3.1.2.2.1 144 (by decide), k1.2.2.1 138 (by decide), r.2, Nat.zero_add, s.2, zLo_or]
        have inner : ∀ m n w2, n + m = zown D f → zFr [] [143, 144, 146] [] w1 w2 → (∀ k, k < n → w2.2.1 143 k = zT (zthr z u v (zdkL zno (oL D f k))) ∧ w2.2.1 144 k = zLo (zthr z u v (zdkL zno (oL D f k)))) → zk0 G X mX6_shade 95 [.ref 131, .ref 26, .ref l, .int o, .int (nI (zN_ D o f)), .int (nI f), .int (nI n)] [] w2 := by
          intro m
          induction m with
          | zero =>
            intro n w2 hn k1 k2
            obtain rfl : n = zown D f := by omega
            have hw2 := zFr_wf k1 hw1
            have e139 : w2.1 139 = w1.1 139 := k1.2.1 139 (by decide) (by decide)
            refine zk_iload hX dX6_shade_95 rfl ?_
            refine zk_aload_n hX dX6_shade_97 rfl ?_
            refine zk_getR hX dX6_shade_98 flX6_39 k_131 z_131 (hw2 _ _ (by decide) |>.trans r_131_9) ?_
            refine zk_iload hX dX6_shade_101 rfl ?_
            refine zk_ialdE hX dX6_shade_103 rfl k_139 z_139 (by first | assumption | omega) rfl ?_
            rw [e139, hof.1]
            refine zk_icmp_ge (tgt := 175) hX dX6_shade_104 (by decide) (fun c104 => ?_) (fun c104 => ?_)
            rotate_left
            · exact absurd (nI_le (Nat.le_refl _) (by omega)) c104
            exact out w2 k1 k2
          | succ m ih2 =>
            intro n w2 hn k1 k2
            have hw2 := zFr_wf k1 hw1
            have e139 : w2.1 139 = w1.1 139 := k1.2.1 139 (by decide) (by decide)
            have e141 : w2.2.1 141 = w1.2.1 141 := k1.2.2.1 141 (by decide)
            have e142 : w2.2.1 142 = w1.2.1 142 := k1.2.2.1 142 (by decide)
            have hL2 : zLm w2 l z u v := by
              have hl5 : l ≠ 166 := by rcases hLp with rfl | rfl <;> decide
              unfold zLm
              rw [k1.2.1 l (by simp) hl5, hFr.2.1 l (by simp) hl5]
              exact hL
            have ho2 := hof.2 n (by omega)
            refine zk_iload hX dX6_shade_95 rfl ?_
            refine zk_aload_n hX dX6_shade_97 rfl ?_
            refine zk_getR hX dX6_shade_98 flX6_39 k_131 z_131 (hw2 _ _ (by decide) |>.trans r_131_9) ?_
            refine zk_iload hX dX6_shade_101 rfl ?_
            refine zk_ialdE hX dX6_shade_103 rfl k_139 z_139 (by first | assumption | omega) rfl ?_
            rw [e139, hof.1]
            refine zk_icmp_ge (tgt := 175) hX dX6_shade_104 (by decide) (fun c104 => ?_) (fun c104 => ?_)
            · exact absurd c104 (nI_ge (by omega) (by omega))
            refine zk_aload_n hX dX6_shade_107 rfl ?_
            refine zk_aload_n hX dX6_shade_108 rfl ?_
            refine zk_getR hX dX6_shade_109 flX6_45 k_131 z_131 (hw2 _ _ (by decide) |>.trans r_131_11) ?_
            refine zk_iload hX dX6_shade_112 rfl ?_
            refine zk_bipush (v := 125) hX dX6_shade_114 (by decide) ?_
            refine zk_imul hX dX6_shade_116 ?_
            refine zk_iload hX dX6_shade_117 rfl ?_
            refine zk_iadd hX dX6_shade_119 ?_
            refine zk_laldE hX dX6_shade_120 (nI_addE (nI_mulE rfl (nI_k 125 rfl)) rfl) k_141 z_141 (by first | assumption | omega) rfl ?_
            rw [e141, ho2.2.1]
            refine zk_aload_n hX dX6_shade_121 rfl ?_
            refine zk_getR hX dX6_shade_122 flX6_48 k_131 z_131 (hw2 _ _ (by decide) |>.trans r_131_12) ?_
            refine zk_iload hX dX6_shade_125 rfl ?_
            refine zk_bipush (v := 125) hX dX6_shade_127 (by decide) ?_
            refine zk_imul hX dX6_shade_129 ?_
            refine zk_iload hX dX6_shade_130 rfl ?_
            refine zk_iadd hX dX6_shade_132 ?_
            refine zk_laldE hX dX6_shade_133 (nI_addE (nI_mulE rfl (nI_k 125 rfl)) rfl) k_142 z_142 (by first | assumption | omega) rfl ?_
            rw [e142, ho2.2.2]
            refine zk_aload_n hX dX6_shade_134 rfl ?_
            refine zk_getR hX dX6_shade_135 flX6_63 k_131 z_131 (hw2 _ _ (by decide) |>.trans r_131_16) ?_
            refine zk_V3v hX dX6_shade_138 kcX3_throwCells mlX6_132 viX3_throwCells rfl (zLp_k hLp) (zLp_z hLp) (s_X3_throwCells hLp zCe146 hL2 ho) (Nat.le_of_ble_eq_true rfl) rfl ?_
            refine zk_aload_n hX dX6_shade_141 rfl ?_
            refine zk_getR hX dX6_shade_142 flX6_51 k_131 z_131 ((zWf_of hw2 rfl (w' := zsetS w2 146 (zthr z u v (zdkL zno (oL D f n))))) _ _ (by decide) |>.trans r_131_13) ?_
            refine zk_iload hX dX6_shade_145 rfl ?_
            refine zk_aload_n hX dX6_shade_147 rfl ?_
            refine zk_getR hX dX6_shade_148 flX6_63 k_131 z_131 ((zWf_of hw2 rfl (w' := zsetS w2 146 (zthr z u v (zdkL zno (oL D f n))))) _ _ (by decide) |>.trans r_131_16) ?_
            refine zk_getL hX dX6_shade_151 flX6_112 k_146 z_146 ?_
            rw [zsetS_has.1]
            refine zk_lastE hX dX6_shade_154 rfl k_143 z_143 (by first | assumption | omega) rfl ?_
            refine zk_aload_n hX dX6_shade_155 rfl ?_
            refine zk_getR hX dX6_shade_156 flX6_54 k_131 z_131 ((zWf_of hw2 rfl (w' := zsetS w2 146 (zthr z u v (zdkL zno (oL D f n))))) _ _ (by decide) |>.trans r_131_14) ?_
            refine zk_iload hX dX6_shade_159 rfl ?_
            refine zk_aload_n hX dX6_shade_161 rfl ?_
            refine zk_getR hX dX6_shade_162 flX6_63 k_131 z_131 ((zWf_of hw2 rfl (w' := zsetS w2 146 (zthr z u v (zdkL zno (oL D f n))))) _ _ (by decide) |>.trans r_131_16) ?_
            refine zk_getL hX dX6_shade_165 flX6_115 k_146 z_146 ?_
            rw [zsl_o (by omega), zsetS_has.2]
            refine zk_lastE hX dX6_shade_168 rfl k_144 z_144 (by first | assumption | omega) rfl ?_
            refine zk_iinc (lo' := [_, _, _, _, _, _, _]) hX dX6_shade_169 rfl (by first | exact zinc _ | exact rfl) (Nat.le_of_ble_eq_true rfl) rfl rfl ?_
            refine zk_goto (tgt := 95) hX dX6_shade_172 (by decide) ?_
            refine ih2 (n + 1) _ (by omega) (zFr_t (zFr_t (zFr_t k1 (zFr_S (by decide))) (zFr_l (by decide))) (zFr_l (by decide))) (fun k hk => ?_)
            rcases Nat.lt_succ_iff_lt_or_eq.mp hk with h | rfl
            · rw [zsl_o (by omega), zsl_2, if_neg (by omega), zsetS_2 (by decide), zsl_2, if_neg (by omega), zsl_o (by omega), zsetS_2 (by decide)]
              exact k2 k h
            · exact ⟨by rw [zsl_o (by omega), zsl_2, if_pos ⟨rfl, rfl⟩], by rw [zsl_2, if_pos ⟨rfl, rfl⟩]⟩
        refine zk_iconst (v := 0) hX dX6_shade_92 (by decide) ?_
        refine zk_istore (lo' := [_, _, _, _, _, _, _]) hX dX6_shade_93 (Nat.le_of_ble_eq_true rfl) rfl rfl ?_
        exact inner (zown D f) 0 w1 (by omega) zFr_r (fun k hk => absurd hk (by omega))
      refine zk_iload hX dX6_shade_64 rfl ?_
      refine zk_aload_n hX dX6_shade_66 rfl ?_
      refine zk_getI hX dX6_shade_67 flX6_75 k_26 z_26 ?_
      rw [hH1.1.2.1]
      refine zk_icmp_ge (tgt := 235) hX dX6_shade_70 (by decide) (fun c70 => ?_) (fun c70 => ?_)
      · exact absurd c70 (nI_ge (by omega) (by omega))
      refine zk_iload_n hX dX6_shade_73 rfl ?_
      refine zk_iconst (v := -1) hX dX6_shade_74 (by decide) ?_
      refine zk_icmp_eq (tgt := 92) hX dX6_shade_75 (by decide) (fun c75 => ?_) (fun c75 => ?_)
      · exact k92 (by grind)
      · refine zk_aload_n hX dX6_shade_78 rfl ?_
        refine zk_getR hX dX6_shade_79 flX6_121 k_26 z_26 (hw1 _ _ (by decide) |>.trans r_26_4) ?_
        refine zk_iload hX dX6_shade_82 rfl ?_
        refine zk_ialdE hX dX6_shade_84 rfl k_28 z_28 (by first | assumption | omega) rfl ?_
        rw [hHf.1]
        refine zk_iload_n hX dX6_shade_85 rfl ?_
        refine zk_icmp_eq (tgt := 92) hX dX6_shade_86 (by decide) (fun c86 => ?_) (fun c86 => ?_)
        · exact k92 (by grind)
        · refine zk_goto (tgt := 229) hX dX6_shade_89 (by decide) ?_
          refine zk_iinc (lo' := [_, _, _, _, _, _, _]) hX dX6_shade_229 rfl (by first | exact zinc _ | exact rfl) (Nat.le_of_ble_eq_true rfl) rfl rfl ?_
          refine zk_goto (tgt := 64) hX dX6_shade_232 (by decide) ?_
          have qa : ¬ zac D o f = true := by unfold zac; simp only [decide_eq_true_eq]; grind
          rw [if_neg qa, Nat.mul_one] at hns
          have h0 := ih (f + 1) w1 b (by omega) hFr (fun i hi => by rw [hns] at hi; rw [rL_n hD hff qa]; exact g3 i hi)
          rw [hns] at h0
          exact h0
  refine zk_aload_n hX dX6_shade_0 rfl ?_
  refine zk_iload_n hX dX6_shade_1 rfl ?_
  refine zk_aload_n hX dX6_shade_2 rfl ?_
  refine zk_getR hX dX6_shade_3 flX6_63 k_131 z_131 (hw _ _ (by decide) |>.trans r_131_16) ?_
  refine zk_V2i hX dX6_shade_6 kcX2_wristCells mlX6_117 viX2_wristCells rfl k_26 z_26 (s_X2_wristCells hw hH hD zCe146 _) (Nat.le_of_ble_eq_true rfl) rfl ?_
  refine zk_pop hX dX6_shade_9 rfl ?_
  refine zk_aload_n hX dX6_shade_10 rfl ?_
  refine zk_aload_n hX dX6_shade_11 rfl ?_
  refine zk_getR hX dX6_shade_12 flX6_63 k_131 z_131 ((zWf_of hw rfl (w' := zsetS w 146 (zdkL zno (zLw D o (dW D))))) _ _ (by decide) |>.trans r_131_16) ?_
  refine zk_getL hX dX6_shade_15 flX6_112 k_146 z_146 ?_
  rw [zsetS_has.1]
  refine zk_aload_n hX dX6_shade_18 rfl ?_
  refine zk_getR hX dX6_shade_19 flX6_63 k_131 z_131 ((zWf_of hw rfl (w' := zsetS w 146 (zdkL zno (zLw D o (dW D))))) _ _ (by decide) |>.trans r_131_16) ?_
  refine zk_getL hX dX6_shade_22 flX6_115 k_146 z_146 ?_
  rw [zsetS_has.2]
  refine zk_aload_n hX dX6_shade_25 rfl ?_
  refine zk_getR hX dX6_shade_26 flX6_63 k_131 z_131 ((zWf_of hw rfl (w' := zsetS w 146 (zdkL zno (zLw D o (dW D))))) _ _ (by decide) |>.trans r_131_16) ?_
  refine zk_V3v hX dX6_shade_29 kcX3_throwCells mlX6_132 viX3_throwCells rfl (zLp_k hLp) (zLp_z hLp) (s_X3_throwCells hLp zCe146 (zLm_o hL rfl) ho) (Nat.le_of_ble_eq_true rfl) rfl ?_
  rw [zsetS_ss]
  refine zk_aload_n hX dX6_shade_32 rfl ?_
  refine zk_getR hX dX6_shade_33 flX6_33 k_131 z_131 ((zWf_of hw rfl (w' := zsetS w 146 (zthr z u v (zdkL zno (zLw D o (dW D)))))) _ _ (by decide) |>.trans r_131_7) ?_
  refine zk_iconst (v := 0) hX dX6_shade_36 (by decide) ?_
  refine zk_aload_n hX dX6_shade_37 rfl ?_
  refine zk_getR hX dX6_shade_38 flX6_63 k_131 z_131 ((zWf_of hw rfl (w' := zsetS w 146 (zthr z u v (zdkL zno (zLw D o (dW D)))))) _ _ (by decide) |>.trans r_131_16) ?_
  refine zk_getL hX dX6_shade_41 flX6_112 k_146 z_146 ?_
  rw [zsetS_has.1]
  refine zk_lastE hX dX6_shade_44 (nI_k 0 rfl) k_137 z_137 (by first | assumption | omega) rfl ?_
  refine zk_aload_n hX dX6_shade_45 rfl ?_
  refine zk_getR hX dX6_shade_46 flX6_36 k_131 z_131 ((zWf_of hw rfl (w' := zsetS w 146 (zthr z u v (zdkL zno (zLw D o (dW D)))))) _ _ (by decide) |>.trans r_131_8) ?_
  refine zk_iconst (v := 0) hX dX6_shade_49 (by decide) ?_
  refine zk_aload_n hX dX6_shade_50 rfl ?_
  refine zk_getR hX dX6_shade_51 flX6_63 k_131 z_131 ((zWf_of hw rfl (w' := zsetS w 146 (zthr z u v (zdkL zno (zLw D o (dW D)))))) _ _ (by decide) |>.trans r_131_16) ?_
  refine zk_getL hX dX6_shade_54 flX6_115 k_146 z_146 ?_
  rw [zsl_o (by omega), zsetS_has.2]
  refine zk_lastE hX dX6_shade_57 (nI_k 0 rfl) k_138 z_138 (by first | assumption | omega) rfl ?_
  refine zk_iconst (v := 1) hX dX6_shade_58 (by decide) ?_
  refine zk_istore (lo' := [_, _, _, _, _, _, _]) hX dX6_shade_59 (Nat.le_of_ble_eq_true rfl) rfl rfl ?_
  refine zk_iconst (v := 0) hX dX6_shade_61 (by decide) ?_
  refine zk_istore (lo' := [_, _, _, _, _, _, _]) hX dX6_shade_62 (Nat.le_of_ble_eq_true rfl) rfl rfl ?_
  refine loop (dF D) 0 _ _ (by omega) (zFr_t (zFr_t (zFr_S (by decide)) (zFr_l (by decide))) (zFr_l (by decide))) (fun i hi => ?_)
  obtain rfl : i = 0 := by have hi : i < 1 := hi; omega
  exact ⟨by rw [zsl_o (by omega), zsl_2, if_pos ⟨rfl, rfl⟩]; rfl, by rw [zsl_2, if_pos ⟨rfl, rfl⟩]; rfl⟩
def cStep (w : zW) (D : zD) : Prop := ∀ j, j < dJ D → w.1 132 j = nI (zsf (zsp D) (dJ D) (j + 1)) ∧ w.1 133 j = nI (zsp D j)
/-- the reach, as learned of the hands -/
def cRe (w : zW) (D : zD) : Prop := cStep w D ∧ cOwn w D ∧ w.1 131 0 = (if 4096 < zpr (zsp D) (dJ D) then 1 else 0) ∧ (zpr (zsp D) (dJ D) ≤ 4096 → w.1 131 1 = nI (zN_ D (-1) (dF D)) ∧ cRow w D (-1) (dF D))
theorem s_X6_learn {G : zG} {w : zW} {D : zD} (hw : zWf w) (hH : cHd w 26 D) (hD : zDok D) :
    zCv G mX6_learn [.ref 131, .ref 26] w (fun w' => zFr [131, 132, 133, 134, 139, 140, 145] [135, 136, 141, 142, 146] [] w w' ∧ cRe w' D) := by
  have h6 := hD.1.2.2
  have hF6 := hD.1.2.1
  have hN0 := zpr_le hD (Nat.le_refl _)
  have hNe : zN_ D (-1) (dF D) = zpr (zsp D) (dJ D) := by
    unfold zN_
    rw [hD.2.2.2.1]
    exact zpr_c (fun j _ => zso_m)
  refine zC_of (lo := [_, _, _, _]) kcX6_learn (Nat.le_of_ble_eq_true rfl) rfl (fun X hX hE => ?_)
  have loop2 : ∀ y f w1, f + y = dF D → zFr [131, 132, 133, 134, 139, 140, 145] [135, 136, 141, 142, 146] [] w w1 → cStep w1 D → (∀ g, g < f → cOwn1 w1 D g) → zk0 G X mX6_learn 48 [.ref 131, .ref 26, .int (nI (zpr (zsp D) (dJ D))), .int (nI f)] [] w1 := by
    intro y
    induction y with
    | zero =>
      intro f w1 hf hFr g1 g2
      obtain rfl : f = dF D := by omega
      have hw1 := zFr_wf hFr hw
      have hH1 : cHd w1 26 D := cHd_o hH (fun a h1 h2 => hFr.2.1 a (by simp; omega) (by omega))
      have hH2 : ∀ x, cHd (zsi w1 131 0 x) 26 D := fun x => cHd_o hH1 (fun a h1 h2 => zsi_o (by omega))
      have hO2 : ∀ x, cOwn (zsi w1 131 0 x) D := fun x => cOwn_f g2 (zFr_i (A := [131]) (B := []) (F := []) (by decide) (by decide)) (by decide)
      have k99 : zpr (zsp D) (dJ D) ≤ 4096 → zk0 G X mX6_learn 99 [.ref 131, .ref 26, .int (nI (zpr (zsp D) (dJ D))), .int (nI (dF D))] [] (zsi w1 131 0 0) := by
        intro hN
        refine zk_aload_n hX dX6_learn_99 rfl ?_
        refine zk_aload_n hX dX6_learn_100 rfl ?_
        refine zk_iconst (v := -1) hX dX6_learn_101 (by decide) ?_
        refine zk_V2vp hX dX6_learn_102 kcX6_combine mlX6_86 viX6_combine rfl k_131 z_131 (s_X6_combine (zWf_i hw1) (hH2 _) hD (hO2 _) hN (-1)) (Nat.le_of_ble_eq_true rfl) rfl (fun w2 q2 => ?_)
        refine zk_vret hX hE rfl ⟨rfl, rfl⟩ dX6_learn_105 ⟨rfl, ?_⟩
        refine ⟨zFr_t (zFr_t hFr (zFr_i (by decide) (by decide))) (zFr_s q2.1 (by decide)), ?_, cOwn_f g2 (zFr_t (zFr_i (by decide) (by decide) : zFr [131, 134] [135, 136, 146] [] _ _) q2.1) (by decide), ?_, fun h => ⟨q2.2.2.1, q2.2.2.2⟩⟩
        · intro j hj
          rw [q2.1.2.1 132 (by decide) (by decide), q2.1.2.1 133 (by decide) (by decide), zsi_o (by decide), zsi_o (by decide)]
          exact g1 j hj
        · rw [q2.2.1 0 (by decide), zsi_1, if_pos ⟨rfl, rfl⟩, if_neg (by omega)]
      have k91 : 4096 < zpr (zsp D) (dJ D) → zk0 G X mX6_learn 91 [.ref 131, .ref 26, .int (nI (zpr (zsp D) (dJ D))), .int (nI (dF D))] [] (zsi w1 131 0 1) := by
        intro hN
        refine zk_aload_n hX dX6_learn_91 rfl ?_
        refine zk_iconst (v := 0) hX dX6_learn_92 (by decide) ?_
        refine zk_putI hX dX6_learn_93 plX6_9 (fun h => by cases h) k_131 z_131 rfl rfl ?_
        refine zk_goto (tgt := 105) hX dX6_learn_96 (by decide) ?_
        refine zk_vret hX hE rfl ⟨rfl, rfl⟩ dX6_learn_105 ⟨rfl, ?_⟩
        have k : zFr [131] [] [] w1 (zsi (zsi w1 131 0 1) 131 1 0) := zFr_t (zFr_i (by decide) (by decide)) (zFr_i (by decide) (by decide))
        refine ⟨zFr_t hFr (zFr_s k (by decide)), ?_, cOwn_f g2 k (by decide), ?_, fun h => absurd h (by omega)⟩
        · intro j hj
          rw [k.2.1 132 (by decide) (by decide), k.2.1 133 (by decide) (by decide)]
          exact g1 j hj
        · rw [zsi_1, if_neg (by decide), zsi_1, if_pos ⟨rfl, rfl⟩, if_pos hN]
      refine zk_iload_n hX dX6_learn_48 rfl ?_
      refine zk_aload_n hX dX6_learn_49 rfl ?_
      refine zk_getI hX dX6_learn_50 flX6_75 k_26 z_26 ?_
      rw [hH1.1.2.1]
      refine zk_icmp_ge (tgt := 68) hX dX6_learn_53 (by decide) (fun c53 => ?_) (fun c53 => ?_)
      rotate_left
      · exact absurd (nI_le (Nat.le_refl _) (by omega)) c53
      refine zk_aload_n hX dX6_learn_68 rfl ?_
      refine zk_iload_n hX dX6_learn_69 rfl ?_
      refine zk_sipush (v := 4096) hX dX6_learn_70 (by decide) ?_
      refine zk_icmp_le (tgt := 80) hX dX6_learn_73 (by decide) (fun c73 => ?_) (fun c73 => ?_)
      · refine zk_iconst (v := 0) hX dX6_learn_80 (by decide) ?_
        refine zk_putI hX dX6_learn_81 plX6_82 (fun h => by cases h) k_131 z_131 rfl rfl ?_
        refine zk_aload_n hX dX6_learn_84 rfl ?_
        refine zk_getI hX dX6_learn_85 flX6_82 k_131 z_131 ?_
        rw [zsi_1, if_pos ⟨rfl, rfl⟩]
        refine zk_if_eq (tgt := 99) hX dX6_learn_88 (by decide) (fun c88 => ?_) (fun c88 => ?_)
        · first | exact absurd c88 (by decide) | exact k99 (nI_leD (y := 4096) c73)
        · first | exact absurd rfl c88 | exact k91 (nI_ltD (y := 4096) c73)
      · refine zk_iconst (v := 1) hX dX6_learn_76 (by decide) ?_
        refine zk_goto (tgt := 81) hX dX6_learn_77 (by decide) ?_
        refine zk_putI hX dX6_learn_81 plX6_82 (fun h => by cases h) k_131 z_131 rfl rfl ?_
        refine zk_aload_n hX dX6_learn_84 rfl ?_
        refine zk_getI hX dX6_learn_85 flX6_82 k_131 z_131 ?_
        rw [zsi_1, if_pos ⟨rfl, rfl⟩]
        refine zk_if_eq (tgt := 99) hX dX6_learn_88 (by decide) (fun c88 => ?_) (fun c88 => ?_)
        · first | exact absurd c88 (by decide) | exact k99 (nI_leD (y := 4096) c73)
        · first | exact absurd rfl c88 | exact k91 (nI_ltD (y := 4096) c73)
    | succ y ih =>
      intro f w1 hf hFr g1 g2
      have hw1 := zFr_wf hFr hw
      have hH1 : cHd w1 26 D := cHd_o hH (fun a h1 h2 => hFr.2.1 a (by simp; omega) (by omega))
      refine zk_iload_n hX dX6_learn_48 rfl ?_
      refine zk_aload_n hX dX6_learn_49 rfl ?_
      refine zk_getI hX dX6_learn_50 flX6_75 k_26 z_26 ?_
      rw [hH1.1.2.1]
      refine zk_icmp_ge (tgt := 68) hX dX6_learn_53 (by decide) (fun c53 => ?_) (fun c53 => ?_)
      · exact absurd c53 (nI_ge (by omega) (by omega))
      refine zk_aload_n hX dX6_learn_56 rfl ?_
      refine zk_aload_n hX dX6_learn_57 rfl ?_
      refine zk_iload_n hX dX6_learn_58 rfl ?_
      refine zk_V2vp hX dX6_learn_59 kcX6_learnFinger mlX6_78 viX6_learnFinger rfl k_131 z_131 (s_X6_learnFinger hw1 hH1 hD (by omega)) (Nat.le_of_ble_eq_true rfl) rfl (fun w2 q2 => ?_)
      refine zk_iinc (lo' := [_, _, _, _]) hX dX6_learn_62 rfl (by first | exact zinc _ | exact rfl) (Nat.le_of_ble_eq_true rfl) rfl rfl ?_
      refine zk_goto (tgt := 48) hX dX6_learn_65 (by decide) ?_
      refine ih (f + 1) w2 (by omega) (zFr_t hFr (zFr_s q2.1 (by decide))) ?_ (fun g hg => ?_)
      · intro j hj
        rw [q2.1.2.1 132 (by decide) (by decide), q2.1.2.1 133 (by decide) (by decide)]
        exact g1 j hj
      · rcases Nat.lt_succ_iff_lt_or_eq.mp hg with h | rfl
        · have hg9 := g2 g h
          have hg1 := zown_le hD (f := g) (by omega)
          refine ⟨by rw [q2.2.1 g (by omega)]; exact hg9.1, fun n hn => ?_⟩
          have hx := q2.2.2.1 (g * 125 + n) (by omega)
          rw [hx.1, hx.2.1, hx.2.2]
          exact hg9.2 n hn
        · exact q2.2.2.2
  have loop1 : ∀ m w1, m ≤ dJ D → zFr [131, 132, 133, 134, 139, 140, 145] [135, 136, 141, 142, 146] [] w w1 → (∀ j, m ≤ j → j < dJ D → w1.1 132 j = nI (zsf (zsp D) (dJ D) (j + 1)) ∧ w1.1 133 j = nI (zsp D j)) → zk0 G X mX6_learn 9 [.ref 131, .ref 26, .int (nI (zsf (zsp D) (dJ D) m)), .int (nI m - 1)] [] w1 := by
    intro m
    induction m with
    | zero =>
      intro w1 _ hFr g1
      have e0 : zsf (zsp D) (dJ D) 0 = zpr (zsp D) (dJ D) := by
        have := zpr_sf (zsp D) (m := dJ D) (j := 0) (by omega)
        rw [this]
        show _ = 1 * _
        omega
      rw [e0]
      refine zk_iload_n hX dX6_learn_9 rfl ?_
      refine zk_if_lt (tgt := 46) hX dX6_learn_10 (by decide) (fun c10 => ?_) (fun c10 => ?_)
      rotate_left
      · exact absurd (by decide) c10
      refine zk_iconst (v := 0) hX dX6_learn_46 (by decide) ?_
      refine zk_istore_n (lo' := [_, _, _, _]) hX dX6_learn_47 (Nat.le_of_ble_eq_true rfl) rfl rfl ?_
      exact loop2 (dF D) 0 w1 (by omega) hFr (fun j hj => g1 j (by omega) hj) (fun g hg => absurd hg (by omega))
    | succ m ih =>
      intro w1 hm hFr g1
      rw [show nI (m + 1) - 1 = nI m from nI_pred m]
      have hw1 := zFr_wf hFr hw
      have hH1 : cHd (zsi w1 132 m (nI (zsf (zsp D) (dJ D) (m + 1)))) 26 D := cHd_o hH (fun a h1 h2 => by rw [zsi_o (by omega)]; exact hFr.2.1 a (by simp; omega) (by omega))
      have es := zsf_s (zsp D) (m := dJ D) (j := m) (by omega)
      refine zk_iload_n hX dX6_learn_9 rfl ?_
      refine zk_if_lt (tgt := 46) hX dX6_learn_10 (by decide) (fun c10 => ?_) (fun c10 => ?_)
      · exact absurd c10 (nI_pos (by omega))
      refine zk_aload_n hX dX6_learn_13 rfl ?_
      refine zk_getR hX dX6_learn_14 flX6_15 k_131 z_131 (hw1 _ _ (by decide) |>.trans r_131_2) ?_
      refine zk_iload_n hX dX6_learn_17 rfl ?_
      refine zk_iload_n hX dX6_learn_18 rfl ?_
      refine zk_iastE hX dX6_learn_19 rfl k_132 z_132 (by first | assumption | omega) rfl ?_
      refine zk_aload_n hX dX6_learn_20 rfl ?_
      refine zk_getR hX dX6_learn_21 flX6_19 k_131 z_131 ((zWf_i hw1) _ _ (by decide) |>.trans r_131_3) ?_
      refine zk_iload_n hX dX6_learn_24 rfl ?_
      refine zk_aload_n hX dX6_learn_25 rfl ?_
      refine zk_iload_n hX dX6_learn_26 rfl ?_
      refine zk_V1i hX dX6_learn_27 kcX2_span mlX6_72 viX2_span rfl k_26 z_26 (s_X2_span (zWf_i hw1) hH1 hD (by omega)) (Nat.le_of_ble_eq_true rfl) rfl ?_
      refine zk_iastE hX dX6_learn_30 rfl k_133 z_133 (by first | assumption | omega) rfl ?_
      refine zk_iload_n hX dX6_learn_31 rfl ?_
      refine zk_aload_n hX dX6_learn_32 rfl ?_
      refine zk_getR hX dX6_learn_33 flX6_19 k_131 z_131 ((zWf_i (zWf_i hw1)) _ _ (by decide) |>.trans r_131_3) ?_
      refine zk_iload_n hX dX6_learn_36 rfl ?_
      refine zk_ialdE hX dX6_learn_37 rfl k_133 z_133 (by first | assumption | omega) rfl ?_
      rw [zsi_1, if_pos ⟨rfl, rfl⟩]
      refine zk_imul hX dX6_learn_38 ?_
      rw [nI_mul, Nat.mul_comm, ← es]
      refine zk_istore_n (lo' := [_, _, _, _]) hX dX6_learn_39 (Nat.le_of_ble_eq_true rfl) rfl rfl ?_
      refine zk_iinc (lo' := [_, _, _, _]) hX dX6_learn_40 rfl (by exact zdec1 _) (Nat.le_of_ble_eq_true rfl) rfl rfl ?_
      refine zk_goto (tgt := 9) hX dX6_learn_43 (by decide) ?_
      refine ih _ (by omega) (zFr_t (zFr_t hFr (zFr_i (by decide) (by decide))) (zFr_i (by decide) (by decide))) (fun j hj1 hj2 => ?_)
      by_cases q : j = m
      · subst q
        exact ⟨by rw [zsi_o (by decide), zsi_1, if_pos ⟨rfl, rfl⟩], by rw [zsi_1, if_pos ⟨rfl, rfl⟩]⟩
      · have h9 := g1 j (by omega) hj2
        exact ⟨by rw [zsi_o (by decide), zsi_1, if_neg (by omega)]; exact h9.1, by rw [zsi_1, if_neg (by omega), zsi_o (by decide)]; exact h9.2⟩
  refine zk_iconst (v := 1) hX dX6_learn_0 (by decide) ?_
  refine zk_istore_n (lo' := [_, _, _, _]) hX dX6_learn_1 (Nat.le_of_ble_eq_true rfl) rfl rfl ?_
  refine zk_aload_n hX dX6_learn_2 rfl ?_
  refine zk_getI hX dX6_learn_3 flX6_67 k_26 z_26 ?_
  rw [hH.1.2.2]
  refine zk_iconst (v := 1) hX dX6_learn_6 (by decide) ?_
  refine zk_isub hX dX6_learn_7 ?_
  refine zk_istore_n (lo' := [_, _, _, _]) hX dX6_learn_8 (Nat.le_of_ble_eq_true rfl) rfl rfl ?_
  have h0 := loop1 (dJ D) w (Nat.le_refl _) zFr_r (fun j h1 h2 => absurd h1 (by omega))
  rw [zsf_ge _ (Nat.le_refl _)] at h0
  exact h0

