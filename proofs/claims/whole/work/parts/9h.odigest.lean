/-! digest: the call -/
def mS6 (w : zW) (h : Int64) : Int64 := zit (fun r h => kS (fun i => w.1 169 (40 * r + i)) (w.1 168 r) h) 6 h
def mS7 (w : zW) (h : Int64) : Int64 := zit (fun r h => kS (fun i => w.1 172 (80 * r + i)) (w.1 171 r) h) 4 h
def mdg (w : zW) (D : zD) (b : zBd) (t : Nat → Nat → Int32) (n nl nc T z u v : Nat) : Int64 := mS7 w (mS6 w (mdB w b nl nc (zit (mPo w D t) n (mdH w D (mx (mx (zit (fun k h => mx h (m_count w n k)) 10 17) (nI T)) (nI (lc z u v)))))))
theorem m_count_o {w w' : zW} {n k : Nat} {A B F : List Nat} (hF : zFr A B F w w') (h : (okc [168, 171, 183, 186] A && okc [10, 11, 12, 33, 53, 55] F) = true) : m_count w' n k = m_count w n k := by
  rw [Bool.and_eq_true] at h
  unfold m_count mC1 mC2 mC3
  rw [hF.2.1 168 (okc_m h.1 (by simp)) (by decide), hF.2.1 171 (okc_m h.1 (by simp)) (by decide), hF.2.1 183 (okc_m h.1 (by simp)) (by decide), hF.2.1 186 (okc_m h.1 (by simp)) (by decide), hF.2.2.2 10 (okc_m h.2 (by simp)), hF.2.2.2 11 (okc_m h.2 (by simp)), hF.2.2.2 12 (okc_m h.2 (by simp)), hF.2.2.2 33 (okc_m h.2 (by simp)), hF.2.2.2 53 (okc_m h.2 (by simp)), hF.2.2.2 55 (okc_m h.2 (by simp))]
theorem zFd_o {w w1 w2 : zW} {H H' : Int64} (h : zFd w w1 H) (h' : zFd w1 w2 H') : zFd w w2 H' := zFd_t h h'
theorem s_X12_digest {G : zG} {w : zW} {D : zD} {b : zBd} {n nl nc z u v T : Nat} {t : Nat → Nat → Int32} (hw : zWf w) (hM : mHd w D) (hD : zDok D) (hS : w.1 166 24 = nI T) (hl : mLm w z u v) (hn : n ≤ 12) (hP : w.1 166 33 = nI n) (ht : ∀ p, p < n → zT6 D (t p) ∧ ∀ j, j < dJ D → w.1 184 (6 * p + j) = t p j) (hB : mBs w b) (h8 : nl ≤ 8) (h24 : nc ≤ 24) (hK : w.1 166 53 = nI nl) (hC : w.1 166 55 = nI nc) (hRw : ∀ r, r < 6 → zSz (w.1 168 r) 40) (hTx : ∀ r, r < 4 → zSz (w.1 171 r) 80) :
    zCl G mX12_digest [.ref 166] w (fun r w' => r = mdg w D b t n nl nc T z u v ∧ zFd w w' r) := by
  generalize eR : mdg w D b t n nl nc T z u v = res
  refine zC_of (lo := [_, _, _]) kcX12_digest (Nat.le_of_ble_eq_true rfl) rfl (fun X hX hE => ?_)
  have l7b : ∀ r, r < 4 → ∀ (q : Int64) (kk : ∀ w1 (a2 : Value), zFd w w1 (kS (fun i => w.1 172 (80 * r + i)) (w.1 171 r) q) → zk0 G X mX12_digest 140 [.ref 166, .int (nI r), a2] [] w1), ∀ n, n ≤ 80 → w.1 171 r = nI n → ∀ m i w1, i + m = n → zFd w w1 (zit (fun i h => mx h (w.1 172 (80 * r + i))) i (mx q (w.1 171 r))) → zk0 G X mX12_digest 113 [.ref 166, .int (nI r), .int (nI i)] [] w1 := by
    intro r hr q kk n hn e1 m
    induction m with
    | zero =>
      intro i w1 hi hF
      obtain rfl : i = n := by omega
      have hw1 := zFr_wf hF.1 hw
      refine zk_iload_n hX dX12_digest_113 rfl ?_
      refine zk_aload_n hX dX12_digest_114 rfl ?_
      refine zk_getR hX dX12_digest_115 flX12_22 k_166 z_166 (hw1 _ _ (by decide) |>.trans r_166_8) ?_
      refine zk_iload_n hX dX12_digest_118 rfl ?_
      refine zk_ialdE hX dX12_digest_119 rfl k_171 z_171 (by first | assumption | omega) rfl ?_
      refine zk_icmp_ge (tgt := 140) hX dX12_digest_120 (by decide) (fun c120 => ?_) (fun c120 => ?_)
      rotate_left
      · exact absurd (by rw [hF.1.2.1 171 (by decide) (by decide), e1]; exact nI_le (Nat.le_refl _) (by omega)) c120
      refine kk w1 _ ?_
      unfold kS
      rw [e1, nI_clamp (by omega)]
      rw [e1] at hF
      exact hF
    | succ m ih =>
      intro i w1 hi hF
      have hw1 := zFr_wf hF.1 hw
      have eb : zbt (mT w1 r) n i = w.1 172 (80 * r + i) := by
        unfold zbt mT
        rw [if_pos (by omega), hF.1.2.1 172 (by decide) (by decide)]
      refine zk_iload_n hX dX12_digest_113 rfl ?_
      refine zk_aload_n hX dX12_digest_114 rfl ?_
      refine zk_getR hX dX12_digest_115 flX12_22 k_166 z_166 (hw1 _ _ (by decide) |>.trans r_166_8) ?_
      refine zk_iload_n hX dX12_digest_118 rfl ?_
      refine zk_ialdE hX dX12_digest_119 rfl k_171 z_171 (by first | assumption | omega) rfl ?_
      refine zk_icmp_ge (tgt := 140) hX dX12_digest_120 (by decide) (fun c120 => ?_) (fun c120 => ?_)
      · exact absurd c120 (by rw [hF.1.2.1 171 (by decide) (by decide), e1]; exact nI_ge (by omega) (by omega))
      refine zk_aload_n hX dX12_digest_123 rfl ?_
      refine zk_aload_n hX dX12_digest_124 rfl ?_
      refine zk_iload_n hX dX12_digest_125 rfl ?_
      refine zk_iload_n hX dX12_digest_126 rfl ?_
      refine zk_V2i hX dX12_digest_127 kcX12_byteAt mlX12_162 viX12_byteAt rfl k_166 z_166 (s_X12_byteAt hw1 hr hn (by omega) (by rw [hF.1.2.1 171 (by decide) (by decide)]; exact e1)) (Nat.le_of_ble_eq_true rfl) rfl ?_
      rw [eb]
      refine zk_i2l hX dX12_digest_130 ?_
      refine zk_V1v hX dX12_digest_131 kcX12_mix mlX12_409 viX12_mix rfl k_166 z_166 (s_X12_mix _) (Nat.le_of_ble_eq_true rfl) rfl ?_
      refine zk_iinc (lo' := [_, _, _]) hX dX12_digest_134 rfl (by first | exact zinc _ | exact rfl) (Nat.le_of_ble_eq_true rfl) rfl rfl ?_
      refine zk_goto (tgt := 113) hX dX12_digest_137 (by decide) ?_
      exact ih (i + 1) _ (by omega) (zFd_m _ hF)
  have l7 : ∀ q : Int64, mS7 w q = res → ∀ m i w1 (a2 : Value), i + m = 4 → zFd w w1 (zit (fun r h => kS (fun i => w.1 172 (80 * r + i)) (w.1 171 r) h) i q) → zk0 G X mX12_digest 95 [.ref 166, .int (nI i), a2] [] w1 := by
    intro q eq m
    induction m with
    | zero =>
      intro i w1 a2 hi hF
      obtain rfl : i = 4 := by omega
      have hw1 := zFr_wf hF.1 hw
      rw [show zit (fun r h => kS (fun i => w.1 172 (80 * r + i)) (w.1 171 r) h) 4 q = res from eq] at hF
      refine zk_iload_n hX dX12_digest_95 rfl ?_
      refine zk_iconst (v := 4) hX dX12_digest_96 (by decide) ?_
      refine zk_icmp_ge (tgt := 146) hX dX12_digest_97 (by decide) (fun c97 => ?_) (fun c97 => ?_)
      rotate_left
      · exact absurd (by decide) c97
      refine zk_aload_n hX dX12_digest_146 rfl ?_
      refine zk_getL hX dX12_digest_147 flX12_406 k_166 z_166 ?_
      rw [hF.2.2]
      refine zk_lret hX hE rfl ⟨rfl, rfl⟩ dX12_digest_150 ⟨_, rfl, ?_⟩
      exact ⟨rfl, hF⟩
    | succ m ih =>
      intro i w1 a2 hi hF
      have hw1 := zFr_wf hF.1 hw
      have h9 := fun w2 a2 => ih (i + 1) w2 a2 (by omega)
      have nx : ∀ w2 (a2 : Value), zFd w w2 (kS (fun j => w.1 172 (80 * i + j)) (w.1 171 i) (zit (fun r h => kS (fun i => w.1 172 (80 * r + i)) (w.1 171 r) h) i q)) → zk0 G X mX12_digest 140 [.ref 166, .int (nI i), a2] [] w2 := by
        intro w2 a2 hF2
        refine zk_iinc (lo' := [_, _, _]) hX dX12_digest_140 rfl (by first | exact zinc _ | exact rfl) (Nat.le_of_ble_eq_true rfl) rfl rfl ?_
        refine zk_goto (tgt := 95) hX dX12_digest_143 (by decide) ?_
        exact h9 w2 _ hF2
      generalize zit (fun r h => kS (fun i => w.1 172 (80 * r + i)) (w.1 171 r) h) i q = q1 at *
      have hF2 := zFd_m (w.1 171 i) hF
      have hw2 := zFr_wf hF2.1 hw
      rcases zsz_n (by decide) (hTx i (by omega)) with ⟨e1, e2⟩ | ⟨n9, hn9, e1, e2⟩
      · refine zk_iload_n hX dX12_digest_95 rfl ?_
        refine zk_iconst (v := 4) hX dX12_digest_96 (by decide) ?_
        refine zk_icmp_ge (tgt := 146) hX dX12_digest_97 (by decide) (fun c97 => ?_) (fun c97 => ?_)
        · exact absurd c97 (nI_ge (b := 4) (by omega) (by decide))
        refine zk_aload_n hX dX12_digest_100 rfl ?_
        refine zk_aload_n hX dX12_digest_101 rfl ?_
        refine zk_getR hX dX12_digest_102 flX12_22 k_166 z_166 (hw1 _ _ (by decide) |>.trans r_166_8) ?_
        refine zk_iload_n hX dX12_digest_105 rfl ?_
        refine zk_ialdE hX dX12_digest_106 rfl k_171 z_171 (by first | assumption | omega) rfl ?_
        rw [hF.1.2.1 171 (by decide) (by decide)]
        refine zk_i2l hX dX12_digest_107 ?_
        refine zk_V1v hX dX12_digest_108 kcX12_mix mlX12_409 viX12_mix rfl k_166 z_166 (s_X12_mix _) (Nat.le_of_ble_eq_true rfl) rfl ?_
        refine zk_iconst (v := 0) hX dX12_digest_111 (by decide) ?_
        refine zk_istore_n (lo' := [_, _, _]) hX dX12_digest_112 (Nat.le_of_ble_eq_true rfl) rfl rfl ?_
        refine zk_iload_n hX dX12_digest_113 rfl ?_
        refine zk_aload_n hX dX12_digest_114 rfl ?_
        refine zk_getR hX dX12_digest_115 flX12_22 k_166 z_166 (hw2 _ _ (by decide) |>.trans r_166_8) ?_
        refine zk_iload_n hX dX12_digest_118 rfl ?_
        refine zk_ialdE hX dX12_digest_119 rfl k_171 z_171 (by first | assumption | omega) rfl ?_
        refine zk_icmp_ge (tgt := 140) hX dX12_digest_120 (by decide) (fun c120 => ?_) (fun c120 => ?_)
        rotate_left
        · exact absurd (by rw [hF2.1.2.1 171 (by decide) (by decide), e1]; decide) c120
        refine nx _ _ ?_
        unfold kS
        rw [e2, zit_0]
        exact hF2
      · refine zk_iload_n hX dX12_digest_95 rfl ?_
        refine zk_iconst (v := 4) hX dX12_digest_96 (by decide) ?_
        refine zk_icmp_ge (tgt := 146) hX dX12_digest_97 (by decide) (fun c97 => ?_) (fun c97 => ?_)
        · exact absurd c97 (nI_ge (b := 4) (by omega) (by decide))
        refine zk_aload_n hX dX12_digest_100 rfl ?_
        refine zk_aload_n hX dX12_digest_101 rfl ?_
        refine zk_getR hX dX12_digest_102 flX12_22 k_166 z_166 (hw1 _ _ (by decide) |>.trans r_166_8) ?_
        refine zk_iload_n hX dX12_digest_105 rfl ?_
        refine zk_ialdE hX dX12_digest_106 rfl k_171 z_171 (by first | assumption | omega) rfl ?_
        rw [hF.1.2.1 171 (by decide) (by decide)]
        refine zk_i2l hX dX12_digest_107 ?_
        refine zk_V1v hX dX12_digest_108 kcX12_mix mlX12_409 viX12_mix rfl k_166 z_166 (s_X12_mix _) (Nat.le_of_ble_eq_true rfl) rfl ?_
        refine zk_iconst (v := 0) hX dX12_digest_111 (by decide) ?_
        refine zk_istore_n (lo' := [_, _, _]) hX dX12_digest_112 (Nat.le_of_ble_eq_true rfl) rfl rfl ?_
        exact l7b i (by omega) q1 nx n9 hn9 e1 n9 0 _ (by omega) (by rw [zit_0]; exact hF2)
  have l6b : ∀ r, r < 6 → ∀ (q : Int64) (kk : ∀ w1 (a2 : Value), zFd w w1 (kS (fun i => w.1 169 (40 * r + i)) (w.1 168 r) q) → zk0 G X mX12_digest 87 [.ref 166, .int (nI r), a2] [] w1), ∀ n, n ≤ 40 → w.1 168 r = nI n → ∀ m i w1, i + m = n → zFd w w1 (zit (fun i h => mx h (w.1 169 (40 * r + i))) i (mx q (w.1 168 r))) → zk0 G X mX12_digest 60 [.ref 166, .int (nI r), .int (nI i)] [] w1 := by
    intro r hr q kk n hn e1 m
    induction m with
    | zero =>
      intro i w1 hi hF
      obtain rfl : i = n := by omega
      have hw1 := zFr_wf hF.1 hw
      refine zk_iload_n hX dX12_digest_60 rfl ?_
      refine zk_aload_n hX dX12_digest_61 rfl ?_
      refine zk_getR hX dX12_digest_62 flX12_13 k_166 z_166 (hw1 _ _ (by decide) |>.trans r_166_5) ?_
      refine zk_iload_n hX dX12_digest_65 rfl ?_
      refine zk_ialdE hX dX12_digest_66 rfl k_168 z_168 (by first | assumption | omega) rfl ?_
      refine zk_icmp_ge (tgt := 87) hX dX12_digest_67 (by decide) (fun c67 => ?_) (fun c67 => ?_)
      rotate_left
      · exact absurd (by rw [hF.1.2.1 168 (by decide) (by decide), e1]; exact nI_le (Nat.le_refl _) (by omega)) c67
      refine kk w1 _ ?_
      unfold kS
      rw [e1, nI_clamp (by omega)]
      rw [e1] at hF
      exact hF
    | succ m ih =>
      intro i w1 hi hF
      have hw1 := zFr_wf hF.1 hw
      refine zk_iload_n hX dX12_digest_60 rfl ?_
      refine zk_aload_n hX dX12_digest_61 rfl ?_
      refine zk_getR hX dX12_digest_62 flX12_13 k_166 z_166 (hw1 _ _ (by decide) |>.trans r_166_5) ?_
      refine zk_iload_n hX dX12_digest_65 rfl ?_
      refine zk_ialdE hX dX12_digest_66 rfl k_168 z_168 (by first | assumption | omega) rfl ?_
      refine zk_icmp_ge (tgt := 87) hX dX12_digest_67 (by decide) (fun c67 => ?_) (fun c67 => ?_)
      · exact absurd c67 (by rw [hF.1.2.1 168 (by decide) (by decide), e1]; exact nI_ge (by omega) (by omega))
      refine zk_aload_n hX dX12_digest_70 rfl ?_
      refine zk_aload_n hX dX12_digest_71 rfl ?_
      refine zk_iload_n hX dX12_digest_72 rfl ?_
      refine zk_iload_n hX dX12_digest_73 rfl ?_
      refine zk_V2i hX dX12_digest_74 kcX12_rowAt mlX12_149 viX12_rowAt rfl k_166 z_166 (s_X12_rowAt hw1 (by omega)) (Nat.le_of_ble_eq_true rfl) rfl ?_
      rw [hF.1.2.1 169 (by decide) (by decide)]
      refine zk_i2l hX dX12_digest_77 ?_
      refine zk_V1v hX dX12_digest_78 kcX12_mix mlX12_409 viX12_mix rfl k_166 z_166 (s_X12_mix _) (Nat.le_of_ble_eq_true rfl) rfl ?_
      refine zk_iinc (lo' := [_, _, _]) hX dX12_digest_81 rfl (by first | exact zinc _ | exact rfl) (Nat.le_of_ble_eq_true rfl) rfl rfl ?_
      refine zk_goto (tgt := 60) hX dX12_digest_84 (by decide) ?_
      exact ih (i + 1) _ (by omega) (zFd_m _ hF)
  have l6 : ∀ q : Int64, mS7 w (mS6 w q) = res → ∀ m i w1 (a2 : Value), i + m = 6 → zFd w w1 (zit (fun r h => kS (fun i => w.1 169 (40 * r + i)) (w.1 168 r) h) i q) → zk0 G X mX12_digest 41 [.ref 166, .int (nI i), a2] [] w1 := by
    intro q eq m
    induction m with
    | zero =>
      intro i w1 a2 hi hF
      obtain rfl : i = 6 := by omega
      have hw1 := zFr_wf hF.1 hw
      refine zk_iload_n hX dX12_digest_41 rfl ?_
      refine zk_bipush (v := 6) hX dX12_digest_42 (by decide) ?_
      refine zk_icmp_ge (tgt := 93) hX dX12_digest_44 (by decide) (fun c44 => ?_) (fun c44 => ?_)
      rotate_left
      · exact absurd (by decide) c44
      refine zk_iconst (v := 0) hX dX12_digest_93 (by decide) ?_
      refine zk_istore_n (lo' := [_, _, _]) hX dX12_digest_94 (Nat.le_of_ble_eq_true rfl) rfl rfl ?_
      exact l7 (mS6 w q) eq 4 0 w1 _ (by omega) (by rw [zit_0]; exact hF)
    | succ m ih =>
      intro i w1 a2 hi hF
      have hw1 := zFr_wf hF.1 hw
      have h9 := fun w2 a2 => ih (i + 1) w2 a2 (by omega)
      have nx : ∀ w2 (a2 : Value), zFd w w2 (kS (fun j => w.1 169 (40 * i + j)) (w.1 168 i) (zit (fun r h => kS (fun i => w.1 169 (40 * r + i)) (w.1 168 r) h) i q)) → zk0 G X mX12_digest 87 [.ref 166, .int (nI i), a2] [] w2 := by
        intro w2 a2 hF2
        refine zk_iinc (lo' := [_, _, _]) hX dX12_digest_87 rfl (by first | exact zinc _ | exact rfl) (Nat.le_of_ble_eq_true rfl) rfl rfl ?_
        refine zk_goto (tgt := 41) hX dX12_digest_90 (by decide) ?_
        exact h9 w2 _ hF2
      generalize zit (fun r h => kS (fun i => w.1 169 (40 * r + i)) (w.1 168 r) h) i q = q1 at *
      have hF2 := zFd_m (w.1 168 i) hF
      have hw2 := zFr_wf hF2.1 hw
      rcases zsz_n (by decide) (hRw i (by omega)) with ⟨e1, e2⟩ | ⟨n9, hn9, e1, e2⟩
      · refine zk_iload_n hX dX12_digest_41 rfl ?_
        refine zk_bipush (v := 6) hX dX12_digest_42 (by decide) ?_
        refine zk_icmp_ge (tgt := 93) hX dX12_digest_44 (by decide) (fun c44 => ?_) (fun c44 => ?_)
        · exact absurd c44 (nI_ge (b := 6) (by omega) (by decide))
        refine zk_aload_n hX dX12_digest_47 rfl ?_
        refine zk_aload_n hX dX12_digest_48 rfl ?_
        refine zk_getR hX dX12_digest_49 flX12_13 k_166 z_166 (hw1 _ _ (by decide) |>.trans r_166_5) ?_
        refine zk_iload_n hX dX12_digest_52 rfl ?_
        refine zk_ialdE hX dX12_digest_53 rfl k_168 z_168 (by first | assumption | omega) rfl ?_
        rw [hF.1.2.1 168 (by decide) (by decide)]
        refine zk_i2l hX dX12_digest_54 ?_
        refine zk_V1v hX dX12_digest_55 kcX12_mix mlX12_409 viX12_mix rfl k_166 z_166 (s_X12_mix _) (Nat.le_of_ble_eq_true rfl) rfl ?_
        refine zk_iconst (v := 0) hX dX12_digest_58 (by decide) ?_
        refine zk_istore_n (lo' := [_, _, _]) hX dX12_digest_59 (Nat.le_of_ble_eq_true rfl) rfl rfl ?_
        refine zk_iload_n hX dX12_digest_60 rfl ?_
        refine zk_aload_n hX dX12_digest_61 rfl ?_
        refine zk_getR hX dX12_digest_62 flX12_13 k_166 z_166 (hw2 _ _ (by decide) |>.trans r_166_5) ?_
        refine zk_iload_n hX dX12_digest_65 rfl ?_
        refine zk_ialdE hX dX12_digest_66 rfl k_168 z_168 (by first | assumption | omega) rfl ?_
        refine zk_icmp_ge (tgt := 87) hX dX12_digest_67 (by decide) (fun c67 => ?_) (fun c67 => ?_)
        rotate_left
        · exact absurd (by rw [hF2.1.2.1 168 (by decide) (by decide), e1]; decide) c67
        refine nx _ _ ?_
        unfold kS
        rw [e2, zit_0]
        exact hF2
      · refine zk_iload_n hX dX12_digest_41 rfl ?_
        refine zk_bipush (v := 6) hX dX12_digest_42 (by decide) ?_
        refine zk_icmp_ge (tgt := 93) hX dX12_digest_44 (by decide) (fun c44 => ?_) (fun c44 => ?_)
        · exact absurd c44 (nI_ge (b := 6) (by omega) (by decide))
        refine zk_aload_n hX dX12_digest_47 rfl ?_
        refine zk_aload_n hX dX12_digest_48 rfl ?_
        refine zk_getR hX dX12_digest_49 flX12_13 k_166 z_166 (hw1 _ _ (by decide) |>.trans r_166_5) ?_
        refine zk_iload_n hX dX12_digest_52 rfl ?_
        refine zk_ialdE hX dX12_digest_53 rfl k_168 z_168 (by first | assumption | omega) rfl ?_
        rw [hF.1.2.1 168 (by decide) (by decide)]
        refine zk_i2l hX dX12_digest_54 ?_
        refine zk_V1v hX dX12_digest_55 kcX12_mix mlX12_409 viX12_mix rfl k_166 z_166 (s_X12_mix _) (Nat.le_of_ble_eq_true rfl) rfl ?_
        refine zk_iconst (v := 0) hX dX12_digest_58 (by decide) ?_
        refine zk_istore_n (lo' := [_, _, _]) hX dX12_digest_59 (Nat.le_of_ble_eq_true rfl) rfl rfl ?_
        exact l6b i (by omega) q1 nx n9 hn9 e1 n9 0 _ (by omega) (by rw [zit_0]; exact hF2)
  have l1 : ∀ m i w1, i + m = 10 → zFd w w1 (zit (fun k h => mx h (m_count w n k)) i 17) → zk0 G X mX12_digest 9 [.ref 166, .int (nI i), .null] [] w1 := by
    intro m
    induction m with
    | zero =>
      intro i w1 hi hF
      obtain rfl : i = 10 := by omega
      have hw1 := zFr_wf hF.1 hw
      have ch := s_X12_mixHands (G := G) (T := T) (t := t) hw1 (mHd_f hM hF.1 (by decide)) hD (by rw [hF.1.2.2.2 24 (by decide)]; exact hS) (mLm_o hl ⟨hF.1.2.2.2 25 (by decide), hF.1.2.2.2 26 (by decide), hF.1.2.2.2 27 (by decide)⟩) hn (by rw [hF.1.2.2.2 33 (by decide)]; exact hP) (fun p hp => ⟨(ht p hp).1, fun j hj => by rw [hF.1.2.1 184 (by decide) (by decide)]; exact (ht p hp).2 j hj⟩)
      rw [hF.2.2] at ch
      have e1 : ∀ h, mdH w1 D h = mdH w D h := fun h => by
        unfold mdH
        rw [hF.1.2.1 173 (by decide) (by decide), hF.1.2.1 174 (by decide) (by decide), hF.1.2.1 175 (by decide) (by decide)]
      have e2 : mPo w1 D t = mPo w D t := by
        funext p h
        unfold mPo mTn mA
        rw [hF.1.2.1 183 (by decide) (by decide), hF.1.2.1 184 (by decide) (by decide)]
      rw [e1, e2] at ch
      refine zk_iload_n hX dX12_digest_9 rfl ?_
      refine zk_bipush (v := 10) hX dX12_digest_10 (by decide) ?_
      refine zk_icmp_ge (tgt := 31) hX dX12_digest_12 (by decide) (fun c12 => ?_) (fun c12 => ?_)
      rotate_left
      · exact absurd (by decide) c12
      refine zk_aload_n hX dX12_digest_31 rfl ?_
      refine zk_V0vp hX dX12_digest_32 kcX12_mixHands mlX12_417 viX12_mixHands rfl k_166 z_166 ch (Nat.le_of_ble_eq_true rfl) rfl (fun w2 q2 => ?_)
      have hF2 := zFd_t hF q2
      have hw2 := zFr_wf hF2.1 hw
      have cb := s_X12_mixBeasts (G := G) hw2 (mBs_f hB hF2.1 (by decide)) h8 h24 (by rw [hF2.1.2.2.2 53 (by decide)]; exact hK) (by rw [hF2.1.2.2.2 55 (by decide)]; exact hC)
      have e3 : ∀ h, mdB w2 b nl nc h = mdB w b nl nc h := (fun h => by unfold mdB; rw [hF2.1.2.1 200 (by decide) (by decide), hF2.1.2.1 201 (by decide) (by decide)]; rw [show mBt w2 b = mBt w b from by funext k h; unfold mBt mY2 mU2; rw [hF2.1.2.1 187 (by decide) (by decide), hF2.1.2.1 188 (by decide) (by decide), hF2.1.2.1 189 (by decide) (by decide)]])
      rw [hF2.2.2, e3] at cb
      refine zk_aload_n hX dX12_digest_35 rfl ?_
      refine zk_V0vp hX dX12_digest_36 kcX12_mixBeasts mlX12_420 viX12_mixBeasts rfl k_166 z_166 cb (Nat.le_of_ble_eq_true rfl) rfl (fun w3 q3 => ?_)
      have hF3 := zFd_t hF2 q3
      refine zk_iconst (v := 0) hX dX12_digest_39 (by decide) ?_
      refine zk_istore_n (lo' := [_, _, _]) hX dX12_digest_40 (Nat.le_of_ble_eq_true rfl) rfl rfl ?_
      exact l6 _ eR 6 0 w3 _ (by omega) (by rw [zit_0]; exact hF3)
    | succ m ih =>
      intro i w1 hi hF
      have hw1 := zFr_wf hF.1 hw
      have cc := s_X12_counted (G := G) (k := i) hw1 hn (by rw [hF.1.2.2.2 33 (by decide)]; exact hP) (by omega)
      rw [m_count_o hF.1 (by decide)] at cc
      refine zk_iload_n hX dX12_digest_9 rfl ?_
      refine zk_bipush (v := 10) hX dX12_digest_10 (by decide) ?_
      refine zk_icmp_ge (tgt := 31) hX dX12_digest_12 (by decide) (fun c12 => ?_) (fun c12 => ?_)
      · exact absurd c12 (nI_ge (b := 10) (by omega) (by decide))
      refine zk_aload_n hX dX12_digest_15 rfl ?_
      refine zk_aload_n hX dX12_digest_16 rfl ?_
      refine zk_iload_n hX dX12_digest_17 rfl ?_
      refine zk_V1i hX dX12_digest_18 kcX12_counted mlX12_401 viX12_counted rfl k_166 z_166 cc (Nat.le_of_ble_eq_true rfl) rfl ?_
      refine zk_i2l hX dX12_digest_21 ?_
      refine zk_V1v hX dX12_digest_22 kcX12_mix mlX12_409 viX12_mix rfl k_166 z_166 (s_X12_mix _) (Nat.le_of_ble_eq_true rfl) rfl ?_
      refine zk_iinc (lo' := [_, _, _]) hX dX12_digest_25 rfl (by first | exact zinc _ | exact rfl) (Nat.le_of_ble_eq_true rfl) rfl rfl ?_
      refine zk_goto (tgt := 9) hX dX12_digest_28 (by decide) ?_
      exact ih (i + 1) _ (by omega) (zFd_m _ hF)
  have h17 : zFd w (zsl w 166 58 17) 17 := ⟨zFr_l (by decide), fun i hi => by rw [zsl_2, if_neg (fun q => hi q.2)], by rw [zsl_2, if_pos ⟨rfl, rfl⟩]⟩
  refine zk_aload_n hX dX12_digest_0 rfl ?_
  refine zk_ldc2 hX dX12_digest_1 cnX12_415 ?_
  refine zk_putL hX dX12_digest_4 plX12_406 (fun h => by cases h) k_166 z_166 ?_
  refine zk_iconst (v := 0) hX dX12_digest_7 (by decide) ?_
  refine zk_istore_n (lo' := [_, _, _]) hX dX12_digest_8 (Nat.le_of_ble_eq_true rfl) rfl rfl ?_
  exact l1 10 0 _ (by omega) (by rw [zit_0]; exact h17)
