/-! digest of the model -/
def zFd (w w1 : zW) (H : Int64) : Prop := zFr [179, 180, 181] [166] [29] w w1 ∧ (∀ i, i ≠ 58 → w1.2.1 166 i = w.2.1 166 i) ∧ w1.2.1 166 58 = H
theorem zFd_r {w : zW} : zFd w w (w.2.1 166 58) := ⟨zFr_r, fun _ _ => rfl, rfl⟩
theorem zFd_m {w w1 : zW} {H : Int64} (x : Int32) (h : zFd w w1 H) : zFd w (zsl w1 166 58 (31 * w1.2.1 166 58 + x.toInt64)) (mx H x) := by
  refine ⟨zFr_t h.1 (zFr_l (by decide)), fun i hi => ?_, ?_⟩
  · rw [zsl_2, if_neg (fun q => hi q.2)]
    exact h.2.1 i hi
  · rw [zsl_2, if_pos ⟨rfl, rfl⟩, h.2.2]
    rfl
theorem zFd_f {w w1 w2 : zW} {H : Int64} (h : zFd w w1 H) (hF : zFr [179, 180, 181] [] [29] w1 w2) : zFd w w2 H :=
  ⟨zFr_t h.1 (zFr_s hF (by decide)), fun i hi => by rw [hF.2.2.1 166 (by decide)]; exact h.2.1 i hi, by rw [hF.2.2.1 166 (by decide)]; exact h.2.2⟩
theorem zFd_t {w w1 w2 : zW} {H H' : Int64} (h : zFd w w1 H) (h' : zFd w1 w2 H') : zFd w w2 H' :=
  ⟨zFr_t h.1 h'.1, fun i hi => (h'.2.1 i hi).trans (h.2.1 i hi), h'.2.2⟩
theorem s_X12_mix {G : zG} {w : zW} (v : Int64) : zEv G mX12_mix [.ref 166, .long v] w (zsl w 166 58 (31 * w.2.1 166 58 + v)) := by
  refine zC_of (lo := [_, _, _]) kcX12_mix (Nat.le_of_ble_eq_true rfl) rfl (fun X hX hE => ?_)
  refine zk_aload_n hX dX12_mix_0 rfl ?_
  refine zk_ldc2 hX dX12_mix_1 cnX12_404 ?_
  refine zk_aload_n hX dX12_mix_4 rfl ?_
  refine zk_getL hX dX12_mix_5 flX12_406 k_166 z_166 ?_
  refine zk_lmul hX dX12_mix_8 ?_
  refine zk_lload_n hX dX12_mix_9 rfl ?_
  refine zk_ladd hX dX12_mix_10 ?_
  refine zk_putL hX dX12_mix_11 plX12_406 (fun h => by cases h) k_166 z_166 ?_
  refine zk_vret hX hE rfl ⟨rfl, rfl⟩ dX12_mix_14 ⟨rfl, ?_⟩
  rfl
theorem s_X12_aboutPose {G : zG} {w : zW} {D : zD} {p k : Nat} (hw : zWf w) (hM : mHd w D) (hD : zDok D) (hp : p < 12) (hk : k < 3) {t : Nat → Int32} (hT : zT6 D t) (ht : ∀ j, j < dJ D → w.1 184 (6 * p + j) = t j) :
    zCi G mX12_aboutPose [.ref 166, .int (nI p), .int (nI k)] w (fun r w' => zFr [179, 180, 181] [] [29] w w' ∧ r = if k = 0 then w.1 183 (3 * p) else if k = 1 then nI (zld t) else w.1 183 (3 * p + 1)) := by
  have h6 := hD.1.2.2
  rcases (show k = 0 ∨ k = 1 ∨ k = 2 by omega) with g | g | g <;> subst g
  · skip
    refine zC_of (lo := [_, _, _]) kcX12_aboutPose (Nat.le_of_ble_eq_true rfl) rfl (fun X hX hE => ?_)
    refine zk_iload_n hX dX12_aboutPose_0 rfl ?_
    refine zk_iconst (v := 1) hX dX12_aboutPose_1 (by decide) ?_
    refine zk_icmp_ne (tgt := 16) hX dX12_aboutPose_2 (by decide) (fun c2 => ?_) (fun c2 => ?_)
    rotate_left
    · exact absurd c2 (by decide)
    refine zk_iload_n hX dX12_aboutPose_16 rfl ?_
    refine zk_if_ne (tgt := 28) hX dX12_aboutPose_17 (by decide) (fun c17 => ?_) (fun c17 => ?_)
    · exact absurd c17 (by decide)
    refine zk_aload_n hX dX12_aboutPose_20 rfl ?_
    refine zk_iload_n hX dX12_aboutPose_21 rfl ?_
    refine zk_V1i hX dX12_aboutPose_22 kcX12_kind mlX12_281 viX12_kind rfl k_166 z_166 (s_X12_kind hw (by omega)) (Nat.le_of_ble_eq_true rfl) rfl ?_
    refine zk_goto (tgt := 38) hX dX12_aboutPose_25 (by decide) ?_
    refine zk_iret hX hE rfl ⟨rfl, rfl⟩ dX12_aboutPose_38 ⟨_, rfl, ?_⟩
    exact ⟨zFr_r, rfl⟩
  · skip
    refine zC_of (lo := [_, _, _]) kcX12_aboutPose (Nat.le_of_ble_eq_true rfl) rfl (fun X hX hE => ?_)
    refine zk_iload_n hX dX12_aboutPose_0 rfl ?_
    refine zk_iconst (v := 1) hX dX12_aboutPose_1 (by decide) ?_
    refine zk_icmp_ne (tgt := 16) hX dX12_aboutPose_2 (by decide) (fun c2 => ?_) (fun c2 => ?_)
    · exact absurd rfl c2
    refine zk_aload_n hX dX12_aboutPose_5 rfl ?_
    refine zk_iload_n hX dX12_aboutPose_6 rfl ?_
    refine zk_V1vp hX dX12_aboutPose_7 kcX12_layPose mlX12_284 viX12_layPose rfl k_166 z_166 (s_X12_layPose hw hM hD (by omega) (fun j hj => (hT j (by omega)).1) ht) (Nat.le_of_ble_eq_true rfl) rfl (fun w2 q2 => ?_)
    obtain ⟨k1, k2, k3⟩ := q2
    refine zk_aload_n hX dX12_aboutPose_10 rfl ?_
    refine zk_iconst (v := -1) hX dX12_aboutPose_11 (by decide) ?_
    refine zk_V1i hX dX12_aboutPose_12 kcX12_turned mlX12_248 viX12_turned rfl k_166 z_166 (s_X12_turned (zFr_wf k1 hw) (mHd_f hM k1 (by decide)) hD (fun j hj => by rw [k2 j hj]; exact (hT j (by omega)).1) (Or.inl rfl)) (Nat.le_of_ble_eq_true rfl) rfl ?_
    refine zk_iret hX hE rfl ⟨rfl, rfl⟩ dX12_aboutPose_15 ⟨_, rfl, ?_⟩
    refine ⟨k1, ?_⟩
    have e : zldo D (w2.1 179) (-1) (dJ D) = zldo D t (-1) (dJ D) := zsm_c (fun j hj => by rw [k2 j hj])
    rw [e, zld_o hD (fun j h1 h2 => (hT j h2).2 h1)]
    rfl
  · skip
    refine zC_of (lo := [_, _, _]) kcX12_aboutPose (Nat.le_of_ble_eq_true rfl) rfl (fun X hX hE => ?_)
    refine zk_iload_n hX dX12_aboutPose_0 rfl ?_
    refine zk_iconst (v := 1) hX dX12_aboutPose_1 (by decide) ?_
    refine zk_icmp_ne (tgt := 16) hX dX12_aboutPose_2 (by decide) (fun c2 => ?_) (fun c2 => ?_)
    rotate_left
    · exact absurd c2 (by decide)
    refine zk_iload_n hX dX12_aboutPose_16 rfl ?_
    refine zk_if_ne (tgt := 28) hX dX12_aboutPose_17 (by decide) (fun c17 => ?_) (fun c17 => ?_)
    rotate_left
    · exact absurd c17 (by decide)
    refine zk_aload_n hX dX12_aboutPose_28 rfl ?_
    refine zk_getR hX dX12_aboutPose_29 flX12_59 k_166 z_166 (hw _ _ (by decide) |>.trans r_166_34) ?_
    refine zk_iconst (v := 3) hX dX12_aboutPose_32 (by decide) ?_
    refine zk_iload_n hX dX12_aboutPose_33 rfl ?_
    refine zk_imul hX dX12_aboutPose_34 ?_
    refine zk_iconst (v := 1) hX dX12_aboutPose_35 (by decide) ?_
    refine zk_iadd hX dX12_aboutPose_36 ?_
    refine zk_ialdE hX dX12_aboutPose_37 (nI_addE (nI_mulE (nI_k 3 rfl) rfl) (nI_k 1 rfl)) k_183 z_183 (by first | assumption | omega) rfl ?_
    refine zk_iret hX hE rfl ⟨rfl, rfl⟩ dX12_aboutPose_38 ⟨_, rfl, ?_⟩
    exact ⟨zFr_r, rfl⟩
def mA (w : zW) (t : Nat → Nat → Int32) (p k : Nat) (h : Int64) : Int64 := mx h (if k = 0 then w.1 183 (3 * p) else if k = 1 then nI (zld (t p)) else w.1 183 (3 * p + 1))
def mTn (w : zW) (p j : Nat) (h : Int64) : Int64 := mx h (w.1 184 (6 * p + j))
def mPo (w : zW) (D : zD) (t : Nat → Nat → Int32) (p : Nat) (h : Int64) : Int64 := zit (mTn w p) (dJ D) (zit (mA w t p) 3 h)
def mdH (w : zW) (D : zD) (h : Int64) : Int64 := zit (fun k h => mx h (w.1 175 k)) (3 * dJ D) (zit (fun k h => mx h (w.1 174 k)) (4 * dF D) (zit (fun k h => mx h (w.1 173 k)) (dW D) h))
theorem s_X12_mixHands {G : zG} {w : zW} {D : zD} {n z u v T : Nat} {t : Nat → Nat → Int32} (hw : zWf w) (hM : mHd w D) (hD : zDok D) (hS : w.1 166 24 = nI T) (hl : mLm w z u v) (hn : n ≤ 12) (hP : w.1 166 33 = nI n) (ht : ∀ p, p < n → zT6 D (t p) ∧ ∀ j, j < dJ D → w.1 184 (6 * p + j) = t p j) :
    zCv G mX12_mixHands [.ref 166] w (fun w' => zFd w w' (zit (mPo w D t) n (mdH w D (mx (mx (w.2.1 166 58) (nI T)) (nI (lc z u v)))))) := by
  have h1 := hD.1
  refine zC_of (lo := [_, _, _]) kcX12_mixHands (Nat.le_of_ble_eq_true rfl) rfl (fun X hX hE => ?_)
  have l6 : ∀ p, p < n → ∀ (q : Int64) (kk : ∀ w1 (a2 : Value), zFd w w1 (zit (mTn w p) (dJ D) q) → zk0 G X mX12_mixHands 169 [.ref 166, .int (nI p), a2] [] w1), ∀ m i w1, i + m = dJ D → zFd w w1 (zit (mTn w p) i q) → zk0 G X mX12_mixHands 139 [.ref 166, .int (nI p), .int (nI i)] [] w1 := by
    intro p hp q kk m
    induction m with
    | zero =>
      intro i w1 hi hF
      obtain rfl : i = dJ D := by omega
      have hw1 := zFr_wf hF.1 hw
      refine zk_iload_n hX dX12_mixHands_139 rfl ?_
      refine zk_aload_n hX dX12_mixHands_140 rfl ?_
      refine zk_getI hX dX12_mixHands_141 flX12_199 k_166 z_166 ?_
      refine zk_icmp_ge (tgt := 169) hX dX12_mixHands_144 (by decide) (fun c144 => ?_) (fun c144 => ?_)
      rotate_left
      · exact absurd (by rw [hF.1.2.2.2 12 (by decide), hM.1.2.2]; exact nI_le (Nat.le_refl _) (by omega)) c144
      exact kk w1 _ hF
    | succ m ih =>
      intro i w1 hi hF
      have hw1 := zFr_wf hF.1 hw
      refine zk_iload_n hX dX12_mixHands_139 rfl ?_
      refine zk_aload_n hX dX12_mixHands_140 rfl ?_
      refine zk_getI hX dX12_mixHands_141 flX12_199 k_166 z_166 ?_
      refine zk_icmp_ge (tgt := 169) hX dX12_mixHands_144 (by decide) (fun c144 => ?_) (fun c144 => ?_)
      · exact absurd c144 (by rw [hF.1.2.2.2 12 (by decide), hM.1.2.2]; exact nI_ge (by omega) (by omega))
      refine zk_aload_n hX dX12_mixHands_147 rfl ?_
      refine zk_aload_n hX dX12_mixHands_148 rfl ?_
      refine zk_getR hX dX12_mixHands_149 flX12_62 k_166 z_166 (hw1 _ _ (by decide) |>.trans r_166_35) ?_
      refine zk_bipush (v := 6) hX dX12_mixHands_152 (by decide) ?_
      refine zk_iload_n hX dX12_mixHands_154 rfl ?_
      refine zk_imul hX dX12_mixHands_155 ?_
      refine zk_iload_n hX dX12_mixHands_156 rfl ?_
      refine zk_iadd hX dX12_mixHands_157 ?_
      refine zk_ialdE hX dX12_mixHands_158 (nI_addE (nI_mulE (nI_k 6 rfl) rfl) rfl) k_184 z_184 (by first | assumption | omega) rfl ?_
      rw [hF.1.2.1 184 (by decide) (by decide)]
      refine zk_i2l hX dX12_mixHands_159 ?_
      refine zk_V1v hX dX12_mixHands_160 kcX12_mix mlX12_409 viX12_mix rfl k_166 z_166 (s_X12_mix _) (Nat.le_of_ble_eq_true rfl) rfl ?_
      refine zk_iinc (lo' := [_, _, _]) hX dX12_mixHands_163 rfl (by first | exact zinc _ | exact rfl) (Nat.le_of_ble_eq_true rfl) rfl rfl ?_
      refine zk_goto (tgt := 139) hX dX12_mixHands_166 (by decide) ?_
      exact ih (i + 1) _ (by omega) (zFd_m _ hF)
  have l5 : ∀ p, p < n → ∀ (q : Int64) (kk : ∀ w1 (a2 : Value), zFd w w1 (mPo w D t p q) → zk0 G X mX12_mixHands 169 [.ref 166, .int (nI p), a2] [] w1), ∀ m i w1, i + m = 3 → zFd w w1 (zit (mA w t p) i q) → zk0 G X mX12_mixHands 115 [.ref 166, .int (nI p), .int (nI i)] [] w1 := by
    intro p hp q kk m
    induction m with
    | zero =>
      intro i w1 hi hF
      obtain rfl : i = 3 := by omega
      refine zk_iload_n hX dX12_mixHands_115 rfl ?_
      refine zk_iconst (v := 3) hX dX12_mixHands_116 (by decide) ?_
      refine zk_icmp_ge (tgt := 137) hX dX12_mixHands_117 (by decide) (fun c117 => ?_) (fun c117 => ?_)
      rotate_left
      · exact absurd (by decide) c117
      refine zk_iconst (v := 0) hX dX12_mixHands_137 (by decide) ?_
      refine zk_istore_n (lo' := [_, _, _]) hX dX12_mixHands_138 (Nat.le_of_ble_eq_true rfl) rfl rfl ?_
      exact l6 p hp (zit (mA w t p) 3 q) kk (dJ D) 0 w1 (by omega) (by rw [zit_0]; exact hF)
    | succ m ih =>
      intro i w1 hi hF
      have hw1 := zFr_wf hF.1 hw
      have ca := s_X12_aboutPose (G := G) (k := i) hw1 (mHd_f hM hF.1 (by decide)) hD (show p < 12 by omega) (by omega) (ht p hp).1 (fun j hj => by rw [hF.1.2.1 184 (by decide) (by decide)]; exact (ht p hp).2 j hj)
      rw [hF.1.2.1 183 (by decide) (by decide)] at ca
      refine zk_iload_n hX dX12_mixHands_115 rfl ?_
      refine zk_iconst (v := 3) hX dX12_mixHands_116 (by decide) ?_
      refine zk_icmp_ge (tgt := 137) hX dX12_mixHands_117 (by decide) (fun c117 => ?_) (fun c117 => ?_)
      · exact absurd c117 (nI_ge (b := 3) (by omega) (by decide))
      refine zk_aload_n hX dX12_mixHands_120 rfl ?_
      refine zk_aload_n hX dX12_mixHands_121 rfl ?_
      refine zk_iload_n hX dX12_mixHands_122 rfl ?_
      refine zk_iload_n hX dX12_mixHands_123 rfl ?_
      refine zk_V2ip hX dX12_mixHands_124 kcX12_aboutPose mlX12_302 viX12_aboutPose rfl k_166 z_166 ca (Nat.le_of_ble_eq_true rfl) rfl (fun x w2 q2 => ?_)
      obtain ⟨k1, rfl⟩ := q2
      have hF2 := zFd_f hF k1
      refine zk_i2l hX dX12_mixHands_127 ?_
      refine zk_V1v hX dX12_mixHands_128 kcX12_mix mlX12_409 viX12_mix rfl k_166 z_166 (s_X12_mix _) (Nat.le_of_ble_eq_true rfl) rfl ?_
      refine zk_iinc (lo' := [_, _, _]) hX dX12_mixHands_131 rfl (by first | exact zinc _ | exact rfl) (Nat.le_of_ble_eq_true rfl) rfl rfl ?_
      refine zk_goto (tgt := 115) hX dX12_mixHands_134 (by decide) ?_
      exact ih (i + 1) _ (by omega) (zFd_m _ hF2)
  have l4 : ∀ q : Int64, zit (mPo w D t) n q = zit (mPo w D t) n (mdH w D (mx (mx (w.2.1 166 58) (nI T)) (nI (lc z u v)))) → ∀ m i w1 (a2 : Value), i + m = n → zFd w w1 (zit (mPo w D t) i q) → zk0 G X mX12_mixHands 105 [.ref 166, .int (nI i), a2] [] w1 := by
    intro q eq m
    induction m with
    | zero =>
      intro i w1 a2 hi hF
      obtain rfl : i = n := by omega
      have hw1 := zFr_wf hF.1 hw
      refine zk_iload_n hX dX12_mixHands_105 rfl ?_
      refine zk_aload_n hX dX12_mixHands_106 rfl ?_
      refine zk_getI hX dX12_mixHands_107 flX12_202 k_166 z_166 ?_
      refine zk_icmp_ge (tgt := 175) hX dX12_mixHands_110 (by decide) (fun c110 => ?_) (fun c110 => ?_)
      rotate_left
      · exact absurd (by rw [hF.1.2.2.2 33 (by decide), hP]; exact nI_le (Nat.le_refl _) (by omega)) c110
      refine zk_vret hX hE rfl ⟨rfl, rfl⟩ dX12_mixHands_175 ⟨rfl, ?_⟩
      rw [← eq]
      exact hF
    | succ m ih =>
      intro i w1 a2 hi hF
      have hw1 := zFr_wf hF.1 hw
      have nx : ∀ w2 (a2 : Value), zFd w w2 (mPo w D t i (zit (mPo w D t) i q)) → zk0 G X mX12_mixHands 169 [.ref 166, .int (nI i), a2] [] w2 := by
        intro w2 a2 hF2
        refine zk_iinc (lo' := [_, _, _]) hX dX12_mixHands_169 rfl (by first | exact zinc _ | exact rfl) (Nat.le_of_ble_eq_true rfl) rfl rfl ?_
        refine zk_goto (tgt := 105) hX dX12_mixHands_172 (by decide) ?_
        exact ih (i + 1) w2 _ (by omega) hF2
      refine zk_iload_n hX dX12_mixHands_105 rfl ?_
      refine zk_aload_n hX dX12_mixHands_106 rfl ?_
      refine zk_getI hX dX12_mixHands_107 flX12_202 k_166 z_166 ?_
      refine zk_icmp_ge (tgt := 175) hX dX12_mixHands_110 (by decide) (fun c110 => ?_) (fun c110 => ?_)
      · exact absurd c110 (by rw [hF.1.2.2.2 33 (by decide), hP]; exact nI_ge (by omega) (by omega))
      refine zk_iconst (v := 0) hX dX12_mixHands_113 (by decide) ?_
      refine zk_istore_n (lo' := [_, _, _]) hX dX12_mixHands_114 (Nat.le_of_ble_eq_true rfl) rfl rfl ?_
      exact l5 i (by omega) (zit (mPo w D t) i q) nx 3 0 w1 (by omega) (by rw [zit_0]; exact hF)
  have l3 : ∀ q : Int64, zit (fun k h => mx h (w.1 175 k)) (3 * dJ D) q = mdH w D (mx (mx (w.2.1 166 58) (nI T)) (nI (lc z u v))) → ∀ m i w1, i + m = 3 * dJ D → zFd w w1 (zit (fun k h => mx h (w.1 175 k)) i q) → zk0 G X mX12_mixHands 76 [.ref 166, .int (nI i), .null] [] w1 := by
    intro q eq m
    induction m with
    | zero =>
      intro i w1 hi hF
      obtain rfl : i = 3 * dJ D := by omega
      have hw1 := zFr_wf hF.1 hw
      rw [eq] at hF
      refine zk_iload_n hX dX12_mixHands_76 rfl ?_
      refine zk_iconst (v := 3) hX dX12_mixHands_77 (by decide) ?_
      refine zk_aload_n hX dX12_mixHands_78 rfl ?_
      refine zk_getI hX dX12_mixHands_79 flX12_199 k_166 z_166 ?_
      refine zk_imul hX dX12_mixHands_82 ?_
      refine zk_icmp_ge (tgt := 103) hX dX12_mixHands_83 (by decide) (fun c83 => ?_) (fun c83 => ?_)
      rotate_left
      · exact absurd (by rw [hF.1.2.2.2 12 (by decide), hM.1.2.2, show (3 : Int32) = nI 3 from rfl, nI_mul]; exact nI_le (Nat.le_refl _) (by omega)) c83
      refine zk_iconst (v := 0) hX dX12_mixHands_103 (by decide) ?_
      refine zk_istore_n (lo' := [_, _, _]) hX dX12_mixHands_104 (Nat.le_of_ble_eq_true rfl) rfl rfl ?_
      exact l4 _ rfl n 0 w1 _ (by omega) (by rw [zit_0]; exact hF)
    | succ m ih =>
      intro i w1 hi hF
      have hw1 := zFr_wf hF.1 hw
      refine zk_iload_n hX dX12_mixHands_76 rfl ?_
      refine zk_iconst (v := 3) hX dX12_mixHands_77 (by decide) ?_
      refine zk_aload_n hX dX12_mixHands_78 rfl ?_
      refine zk_getI hX dX12_mixHands_79 flX12_199 k_166 z_166 ?_
      refine zk_imul hX dX12_mixHands_82 ?_
      refine zk_icmp_ge (tgt := 103) hX dX12_mixHands_83 (by decide) (fun c83 => ?_) (fun c83 => ?_)
      · exact absurd c83 (by rw [hF.1.2.2.2 12 (by decide), hM.1.2.2, show (3 : Int32) = nI 3 from rfl, nI_mul]; exact nI_ge (by omega) (by omega))
      refine zk_aload_n hX dX12_mixHands_86 rfl ?_
      refine zk_aload_n hX dX12_mixHands_87 rfl ?_
      refine zk_getR hX dX12_mixHands_88 flX12_35 k_166 z_166 (hw1 _ _ (by decide) |>.trans r_166_15) ?_
      refine zk_iload_n hX dX12_mixHands_91 rfl ?_
      refine zk_ialdE hX dX12_mixHands_92 rfl k_175 z_175 (by first | assumption | omega) rfl ?_
      rw [hF.1.2.1 175 (by decide) (by decide)]
      refine zk_i2l hX dX12_mixHands_93 ?_
      refine zk_V1v hX dX12_mixHands_94 kcX12_mix mlX12_409 viX12_mix rfl k_166 z_166 (s_X12_mix _) (Nat.le_of_ble_eq_true rfl) rfl ?_
      refine zk_iinc (lo' := [_, _, _]) hX dX12_mixHands_97 rfl (by first | exact zinc _ | exact rfl) (Nat.le_of_ble_eq_true rfl) rfl rfl ?_
      refine zk_goto (tgt := 76) hX dX12_mixHands_100 (by decide) ?_
      exact ih (i + 1) _ (by omega) (zFd_m _ hF)
  have l2 : ∀ q : Int64, zit (fun k h => mx h (w.1 174 k)) (4 * dF D) q = zit (fun k h => mx h (w.1 174 k)) (4 * dF D) (zit (fun k h => mx h (w.1 173 k)) (dW D) (mx (mx (w.2.1 166 58) (nI T)) (nI (lc z u v)))) → ∀ m i w1, i + m = 4 * dF D → zFd w w1 (zit (fun k h => mx h (w.1 174 k)) i q) → zk0 G X mX12_mixHands 47 [.ref 166, .int (nI i), .null] [] w1 := by
    intro q eq m
    induction m with
    | zero =>
      intro i w1 hi hF
      obtain rfl : i = 4 * dF D := by omega
      have hw1 := zFr_wf hF.1 hw
      rw [eq] at hF
      refine zk_iload_n hX dX12_mixHands_47 rfl ?_
      refine zk_iconst (v := 4) hX dX12_mixHands_48 (by decide) ?_
      refine zk_aload_n hX dX12_mixHands_49 rfl ?_
      refine zk_getI hX dX12_mixHands_50 flX12_196 k_166 z_166 ?_
      refine zk_imul hX dX12_mixHands_53 ?_
      refine zk_icmp_ge (tgt := 74) hX dX12_mixHands_54 (by decide) (fun c54 => ?_) (fun c54 => ?_)
      rotate_left
      · exact absurd (by rw [hF.1.2.2.2 11 (by decide), hM.1.2.1, show (4 : Int32) = nI 4 from rfl, nI_mul]; exact nI_le (Nat.le_refl _) (by omega)) c54
      refine zk_iconst (v := 0) hX dX12_mixHands_74 (by decide) ?_
      refine zk_istore_n (lo' := [_, _, _]) hX dX12_mixHands_75 (Nat.le_of_ble_eq_true rfl) rfl rfl ?_
      exact l3 (zit (fun k h => mx h (w.1 174 k)) (4 * dF D) (zit (fun k h => mx h (w.1 173 k)) (dW D) (mx (mx (w.2.1 166 58) (nI T)) (nI (lc z u v))))) rfl (3 * dJ D) 0 w1 (by omega) (by rw [zit_0]; exact hF)
    | succ m ih =>
      intro i w1 hi hF
      have hw1 := zFr_wf hF.1 hw
      refine zk_iload_n hX dX12_mixHands_47 rfl ?_
      refine zk_iconst (v := 4) hX dX12_mixHands_48 (by decide) ?_
      refine zk_aload_n hX dX12_mixHands_49 rfl ?_
      refine zk_getI hX dX12_mixHands_50 flX12_196 k_166 z_166 ?_
      refine zk_imul hX dX12_mixHands_53 ?_
      refine zk_icmp_ge (tgt := 74) hX dX12_mixHands_54 (by decide) (fun c54 => ?_) (fun c54 => ?_)
      · exact absurd c54 (by rw [hF.1.2.2.2 11 (by decide), hM.1.2.1, show (4 : Int32) = nI 4 from rfl, nI_mul]; exact nI_ge (by omega) (by omega))
      refine zk_aload_n hX dX12_mixHands_57 rfl ?_
      refine zk_aload_n hX dX12_mixHands_58 rfl ?_
      refine zk_getR hX dX12_mixHands_59 flX12_32 k_166 z_166 (hw1 _ _ (by decide) |>.trans r_166_14) ?_
      refine zk_iload_n hX dX12_mixHands_62 rfl ?_
      refine zk_ialdE hX dX12_mixHands_63 rfl k_174 z_174 (by first | assumption | omega) rfl ?_
      rw [hF.1.2.1 174 (by decide) (by decide)]
      refine zk_i2l hX dX12_mixHands_64 ?_
      refine zk_V1v hX dX12_mixHands_65 kcX12_mix mlX12_409 viX12_mix rfl k_166 z_166 (s_X12_mix _) (Nat.le_of_ble_eq_true rfl) rfl ?_
      refine zk_iinc (lo' := [_, _, _]) hX dX12_mixHands_68 rfl (by first | exact zinc _ | exact rfl) (Nat.le_of_ble_eq_true rfl) rfl rfl ?_
      refine zk_goto (tgt := 47) hX dX12_mixHands_71 (by decide) ?_
      exact ih (i + 1) _ (by omega) (zFd_m _ hF)
  have l1 : ∀ m i w1, i + m = dW D → zFd w w1 (zit (fun k h => mx h (w.1 173 k)) i (mx (mx (w.2.1 166 58) (nI T)) (nI (lc z u v)))) → zk0 G X mX12_mixHands 20 [.ref 166, .int (nI i), .null] [] w1 := by
    intro m
    induction m with
    | zero =>
      intro i w1 hi hF
      obtain rfl : i = dW D := by omega
      have hw1 := zFr_wf hF.1 hw
      refine zk_iload_n hX dX12_mixHands_20 rfl ?_
      refine zk_aload_n hX dX12_mixHands_21 rfl ?_
      refine zk_getI hX dX12_mixHands_22 flX12_193 k_166 z_166 ?_
      refine zk_icmp_ge (tgt := 45) hX dX12_mixHands_25 (by decide) (fun c25 => ?_) (fun c25 => ?_)
      rotate_left
      · exact absurd (by rw [hF.1.2.2.2 10 (by decide), hM.1.1]; exact nI_le (Nat.le_refl _) (by omega)) c25
      refine zk_iconst (v := 0) hX dX12_mixHands_45 (by decide) ?_
      refine zk_istore_n (lo' := [_, _, _]) hX dX12_mixHands_46 (Nat.le_of_ble_eq_true rfl) rfl rfl ?_
      exact l2 (zit (fun k h => mx h (w.1 173 k)) (dW D) (mx (mx (w.2.1 166 58) (nI T)) (nI (lc z u v)))) rfl (4 * dF D) 0 w1 (by omega) (by rw [zit_0]; exact hF)
    | succ m ih =>
      intro i w1 hi hF
      have hw1 := zFr_wf hF.1 hw
      refine zk_iload_n hX dX12_mixHands_20 rfl ?_
      refine zk_aload_n hX dX12_mixHands_21 rfl ?_
      refine zk_getI hX dX12_mixHands_22 flX12_193 k_166 z_166 ?_
      refine zk_icmp_ge (tgt := 45) hX dX12_mixHands_25 (by decide) (fun c25 => ?_) (fun c25 => ?_)
      · exact absurd c25 (by rw [hF.1.2.2.2 10 (by decide), hM.1.1]; exact nI_ge (by omega) (by omega))
      refine zk_aload_n hX dX12_mixHands_28 rfl ?_
      refine zk_aload_n hX dX12_mixHands_29 rfl ?_
      refine zk_getR hX dX12_mixHands_30 flX12_29 k_166 z_166 (hw1 _ _ (by decide) |>.trans r_166_13) ?_
      refine zk_iload_n hX dX12_mixHands_33 rfl ?_
      refine zk_ialdE hX dX12_mixHands_34 rfl k_173 z_173 (by first | assumption | omega) rfl ?_
      rw [hF.1.2.1 173 (by decide) (by decide)]
      refine zk_i2l hX dX12_mixHands_35 ?_
      refine zk_V1v hX dX12_mixHands_36 kcX12_mix mlX12_409 viX12_mix rfl k_166 z_166 (s_X12_mix _) (Nat.le_of_ble_eq_true rfl) rfl ?_
      refine zk_iinc (lo' := [_, _, _]) hX dX12_mixHands_39 rfl (by first | exact zinc _ | exact rfl) (Nat.le_of_ble_eq_true rfl) rfl rfl ?_
      refine zk_goto (tgt := 20) hX dX12_mixHands_42 (by decide) ?_
      exact ih (i + 1) _ (by omega) (zFd_m _ hF)
  have hm1 := zFd_m (nI T) (zFd_r (w := w))
  have hm2 := zFd_m (nI (lc z u v)) hm1
  refine zk_aload_n hX dX12_mixHands_0 rfl ?_
  refine zk_aload_n hX dX12_mixHands_1 rfl ?_
  refine zk_getI hX dX12_mixHands_2 flX12_121 k_166 z_166 ?_
  rw [hS]
  refine zk_i2l hX dX12_mixHands_5 ?_
  refine zk_V1v hX dX12_mixHands_6 kcX12_mix mlX12_409 viX12_mix rfl k_166 z_166 (s_X12_mix _) (Nat.le_of_ble_eq_true rfl) rfl ?_
  refine zk_aload_n hX dX12_mixHands_9 rfl ?_
  refine zk_aload_n hX dX12_mixHands_10 rfl ?_
  refine zk_V0i hX dX12_mixHands_11 kcX12_lampNow mlX12_217 viX12_lampNow rfl k_166 z_166 s_X12_lampNow (Nat.le_of_ble_eq_true rfl) rfl ?_
  rw [hm1.1.2.2.2 25 (by decide), hm1.1.2.2.2 26 (by decide), hm1.1.2.2.2 27 (by decide), hl.1, hl.2.1, hl.2.2, zcode_lc]
  refine zk_i2l hX dX12_mixHands_14 ?_
  refine zk_V1v hX dX12_mixHands_15 kcX12_mix mlX12_409 viX12_mix rfl k_166 z_166 (s_X12_mix _) (Nat.le_of_ble_eq_true rfl) rfl ?_
  refine zk_iconst (v := 0) hX dX12_mixHands_18 (by decide) ?_
  refine zk_istore_n (lo' := [_, _, _]) hX dX12_mixHands_19 (Nat.le_of_ble_eq_true rfl) rfl rfl ?_
  exact l1 (dW D) 0 _ (by omega) (by rw [zit_0]; exact hm2)
