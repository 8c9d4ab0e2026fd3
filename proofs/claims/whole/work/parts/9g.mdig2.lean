/-! digest of the model, whole; the call -/
def mU2 (w : zW) (k y : Nat) (h : Int64) : Int64 := mx h (w.1 187 (10 * k + y))
def mY2 (w : zW) (k y : Nat) (h : Int64) : Int64 := mx h (w.1 188 (10 * k + y))
def mBt (w : zW) (b : zBd) (k : Nat) (h : Int64) : Int64 := if bT b k = true then mx (zit (mY2 w k) 10 (zit (mU2 w k) 10 h)) (w.1 189 k) else mx h (-1)
theorem mBt_t {w : zW} {b : zBd} {k : Nat} {h : Int64} (q : bT b k = true) : mBt w b k h = mx (zit (mY2 w k) 10 (zit (mU2 w k) 10 h)) (w.1 189 k) := if_pos q
theorem mBt_f {w : zW} {b : zBd} {k : Nat} {h : Int64} (q : ¬ bT b k = true) : mBt w b k h = mx h (-1) := if_neg q
def mdB (w : zW) (b : zBd) (nl nc : Nat) (h : Int64) : Int64 := zit (fun k h => mx h (w.1 201 k)) (3 * nc) (zit (fun k h => mx h (w.1 200 k)) (3 * nl) (zit (mBt w b) 6 h))
theorem s_X12_mixBeasts {G : zG} {w : zW} {b : zBd} {nl nc : Nat} (hw : zWf w) (hB : mBs w b) (h8 : nl ≤ 8) (h24 : nc ≤ 24) (hK : w.1 166 53 = nI nl) (hC : w.1 166 55 = nI nc) :
    zCv G mX12_mixBeasts [.ref 166] w (fun w' => zFd w w' (mdB w b nl nc (w.2.1 166 58))) := by
  have em : (-1 : Int32).toInt64 = (-1 : Int64) := by decide
  refine zC_of (lo := [_, _, _]) kcX12_mixBeasts (Nat.le_of_ble_eq_true rfl) rfl (fun X hX hE => ?_)
  have l5 : ∀ q : Int64, zit (fun k h => mx h (w.1 201 k)) (3 * nc) q = mdB w b nl nc (w.2.1 166 58) → ∀ m i w1 (a2 : Value), i + m = 3 * nc → zFd w w1 (zit (fun k h => mx h (w.1 201 k)) i q) → zk0 G X mX12_mixBeasts 159 [.ref 166, .int (nI i), a2] [] w1 := by
    intro q eq m
    induction m with
    | zero =>
      intro i w1 a2 hi hF
      obtain rfl : i = 3 * nc := by omega
      have hw1 := zFr_wf hF.1 hw
      rw [eq] at hF
      refine zk_iload_n hX dX12_mixBeasts_159 rfl ?_
      refine zk_iconst (v := 3) hX dX12_mixBeasts_160 (by decide) ?_
      refine zk_aload_n hX dX12_mixBeasts_161 rfl ?_
      refine zk_getI hX dX12_mixBeasts_162 flX12_205 k_166 z_166 ?_
      refine zk_imul hX dX12_mixBeasts_165 ?_
      refine zk_icmp_ge (tgt := 186) hX dX12_mixBeasts_166 (by decide) (fun c166 => ?_) (fun c166 => ?_)
      rotate_left
      · exact absurd (by rw [hF.1.2.2.2 55 (by decide), hC, show (3 : Int32) = nI 3 from rfl, nI_mul]; exact nI_le (Nat.le_refl _) (by omega)) c166
      refine zk_vret hX hE rfl ⟨rfl, rfl⟩ dX12_mixBeasts_186 ⟨rfl, ?_⟩
      exact hF
    | succ m ih =>
      intro i w1 a2 hi hF
      have hw1 := zFr_wf hF.1 hw
      refine zk_iload_n hX dX12_mixBeasts_159 rfl ?_
      refine zk_iconst (v := 3) hX dX12_mixBeasts_160 (by decide) ?_
      refine zk_aload_n hX dX12_mixBeasts_161 rfl ?_
      refine zk_getI hX dX12_mixBeasts_162 flX12_205 k_166 z_166 ?_
      refine zk_imul hX dX12_mixBeasts_165 ?_
      refine zk_icmp_ge (tgt := 186) hX dX12_mixBeasts_166 (by decide) (fun c166 => ?_) (fun c166 => ?_)
      · exact absurd c166 (by rw [hF.1.2.2.2 55 (by decide), hC, show (3 : Int32) = nI 3 from rfl, nI_mul]; exact nI_ge (by omega) (by omega))
      refine zk_aload_n hX dX12_mixBeasts_169 rfl ?_
      refine zk_aload_n hX dX12_mixBeasts_170 rfl ?_
      refine zk_getR hX dX12_mixBeasts_171 flX12_114 k_166 z_166 (hw1 _ _ (by decide) |>.trans r_166_56) ?_
      refine zk_iload_n hX dX12_mixBeasts_174 rfl ?_
      refine zk_ialdE hX dX12_mixBeasts_175 rfl k_201 z_201 (by first | assumption | omega) rfl ?_
      rw [hF.1.2.1 201 (by decide) (by decide)]
      refine zk_i2l hX dX12_mixBeasts_176 ?_
      refine zk_V1v hX dX12_mixBeasts_177 kcX12_mix mlX12_409 viX12_mix rfl k_166 z_166 (s_X12_mix _) (Nat.le_of_ble_eq_true rfl) rfl ?_
      refine zk_iinc (lo' := [_, _, _]) hX dX12_mixBeasts_180 rfl (by first | exact zinc _ | exact rfl) (Nat.le_of_ble_eq_true rfl) rfl rfl ?_
      refine zk_goto (tgt := 159) hX dX12_mixBeasts_183 (by decide) ?_
      exact ih (i + 1) _ _ (by omega) (zFd_m _ hF)
  have l4 : ∀ m i w1 (a2 : Value), i + m = 3 * nl → zFd w w1 (zit (fun k h => mx h (w.1 200 k)) i (zit (mBt w b) 6 (w.2.1 166 58))) → zk0 G X mX12_mixBeasts 130 [.ref 166, .int (nI i), a2] [] w1 := by
    intro m
    induction m with
    | zero =>
      intro i w1 a2 hi hF
      obtain rfl : i = 3 * nl := by omega
      have hw1 := zFr_wf hF.1 hw
      refine zk_iload_n hX dX12_mixBeasts_130 rfl ?_
      refine zk_iconst (v := 3) hX dX12_mixBeasts_131 (by decide) ?_
      refine zk_aload_n hX dX12_mixBeasts_132 rfl ?_
      refine zk_getI hX dX12_mixBeasts_133 flX12_381 k_166 z_166 ?_
      refine zk_imul hX dX12_mixBeasts_136 ?_
      refine zk_icmp_ge (tgt := 157) hX dX12_mixBeasts_137 (by decide) (fun c137 => ?_) (fun c137 => ?_)
      rotate_left
      · exact absurd (by rw [hF.1.2.2.2 53 (by decide), hK, show (3 : Int32) = nI 3 from rfl, nI_mul]; exact nI_le (Nat.le_refl _) (by omega)) c137
      refine zk_iconst (v := 0) hX dX12_mixBeasts_157 (by decide) ?_
      refine zk_istore_n (lo' := [_, _, _]) hX dX12_mixBeasts_158 (Nat.le_of_ble_eq_true rfl) rfl rfl ?_
      exact l5 (zit (fun k h => mx h (w.1 200 k)) (3 * nl) (zit (mBt w b) 6 (w.2.1 166 58))) rfl (3 * nc) 0 w1 _ (by omega) (by rw [zit_0]; exact hF)
    | succ m ih =>
      intro i w1 a2 hi hF
      have hw1 := zFr_wf hF.1 hw
      refine zk_iload_n hX dX12_mixBeasts_130 rfl ?_
      refine zk_iconst (v := 3) hX dX12_mixBeasts_131 (by decide) ?_
      refine zk_aload_n hX dX12_mixBeasts_132 rfl ?_
      refine zk_getI hX dX12_mixBeasts_133 flX12_381 k_166 z_166 ?_
      refine zk_imul hX dX12_mixBeasts_136 ?_
      refine zk_icmp_ge (tgt := 157) hX dX12_mixBeasts_137 (by decide) (fun c137 => ?_) (fun c137 => ?_)
      · exact absurd c137 (by rw [hF.1.2.2.2 53 (by decide), hK, show (3 : Int32) = nI 3 from rfl, nI_mul]; exact nI_ge (by omega) (by omega))
      refine zk_aload_n hX dX12_mixBeasts_140 rfl ?_
      refine zk_aload_n hX dX12_mixBeasts_141 rfl ?_
      refine zk_getR hX dX12_mixBeasts_142 flX12_111 k_166 z_166 (hw1 _ _ (by decide) |>.trans r_166_54) ?_
      refine zk_iload_n hX dX12_mixBeasts_145 rfl ?_
      refine zk_ialdE hX dX12_mixBeasts_146 rfl k_200 z_200 (by first | assumption | omega) rfl ?_
      rw [hF.1.2.1 200 (by decide) (by decide)]
      refine zk_i2l hX dX12_mixBeasts_147 ?_
      refine zk_V1v hX dX12_mixBeasts_148 kcX12_mix mlX12_409 viX12_mix rfl k_166 z_166 (s_X12_mix _) (Nat.le_of_ble_eq_true rfl) rfl ?_
      refine zk_iinc (lo' := [_, _, _]) hX dX12_mixBeasts_151 rfl (by first | exact zinc _ | exact rfl) (Nat.le_of_ble_eq_true rfl) rfl rfl ?_
      refine zk_goto (tgt := 130) hX dX12_mixBeasts_154 (by decide) ?_
      exact ih (i + 1) _ _ (by omega) (zFd_m _ hF)
  have l3 : ∀ k, k < 6 → bT b k = true → ∀ (q : Int64) (kk : ∀ w1 (a2 : Value), zFd w w1 (mx (zit (mY2 w k) 10 q) (w.1 189 k)) → zk0 G X mX12_mixBeasts 122 [.ref 166, .int (nI k), a2] [] w1), ∀ m i w1, i + m = 10 → zFd w w1 (zit (mY2 w k) i q) → zk0 G X mX12_mixBeasts 65 [.ref 166, .int (nI k), .int (nI i)] [] w1 := by
    intro k hk ht q kk m
    induction m with
    | zero =>
      intro i w1 hi hF
      obtain rfl : i = 10 := by omega
      have hw1 := zFr_wf hF.1 hw
      have hb := (mBs_f hB hF.1 (by decide) k hk).2.1
      refine zk_iload_n hX dX12_mixBeasts_65 rfl ?_
      refine zk_bipush (v := 10) hX dX12_mixBeasts_66 (by decide) ?_
      refine zk_icmp_ge (tgt := 102) hX dX12_mixBeasts_68 (by decide) (fun c68 => ?_) (fun c68 => ?_)
      rotate_left
      · exact absurd (by decide) c68
      refine zk_aload_n hX dX12_mixBeasts_102 rfl ?_
      refine zk_getR hX dX12_mixBeasts_103 flX12_68 k_166 z_166 (hw1 _ _ (by decide) |>.trans r_166_37) ?_
      refine zk_iload_n hX dX12_mixBeasts_106 rfl ?_
      refine zk_zaldE hX dX12_mixBeasts_107 rfl k_186 z_186 (by first | assumption | omega) rfl ?_
      refine zk_if_eq (tgt := 122) hX dX12_mixBeasts_108 (by decide) (fun c108 => ?_) (fun c108 => ?_)
      · exact absurd c108 (hb.mpr ht)
      refine zk_aload_n hX dX12_mixBeasts_111 rfl ?_
      refine zk_aload_n hX dX12_mixBeasts_112 rfl ?_
      refine zk_getR hX dX12_mixBeasts_113 flX12_78 k_166 z_166 (hw1 _ _ (by decide) |>.trans r_166_40) ?_
      refine zk_iload_n hX dX12_mixBeasts_116 rfl ?_
      refine zk_ialdE hX dX12_mixBeasts_117 rfl k_189 z_189 (by first | assumption | omega) rfl ?_
      rw [hF.1.2.1 189 (by decide) (by decide)]
      refine zk_i2l hX dX12_mixBeasts_118 ?_
      refine zk_V1v hX dX12_mixBeasts_119 kcX12_mix mlX12_409 viX12_mix rfl k_166 z_166 (s_X12_mix _) (Nat.le_of_ble_eq_true rfl) rfl ?_
      exact kk _ _ (zFd_m _ hF)
    | succ m ih =>
      intro i w1 hi hF
      have hw1 := zFr_wf hF.1 hw
      have hb := (mBs_f hB hF.1 (by decide) k hk).2.1
      refine zk_iload_n hX dX12_mixBeasts_65 rfl ?_
      refine zk_bipush (v := 10) hX dX12_mixBeasts_66 (by decide) ?_
      refine zk_icmp_ge (tgt := 102) hX dX12_mixBeasts_68 (by decide) (fun c68 => ?_) (fun c68 => ?_)
      · exact absurd c68 (nI_ge (b := 10) (by omega) (by decide))
      refine zk_aload_n hX dX12_mixBeasts_71 rfl ?_
      refine zk_getR hX dX12_mixBeasts_72 flX12_68 k_166 z_166 (hw1 _ _ (by decide) |>.trans r_166_37) ?_
      refine zk_iload_n hX dX12_mixBeasts_75 rfl ?_
      refine zk_zaldE hX dX12_mixBeasts_76 rfl k_186 z_186 (by first | assumption | omega) rfl ?_
      refine zk_if_eq (tgt := 102) hX dX12_mixBeasts_77 (by decide) (fun c77 => ?_) (fun c77 => ?_)
      · exact absurd c77 (hb.mpr ht)
      refine zk_aload_n hX dX12_mixBeasts_80 rfl ?_
      refine zk_aload_n hX dX12_mixBeasts_81 rfl ?_
      refine zk_getR hX dX12_mixBeasts_82 flX12_75 k_166 z_166 (hw1 _ _ (by decide) |>.trans r_166_39) ?_
      refine zk_bipush (v := 10) hX dX12_mixBeasts_85 (by decide) ?_
      refine zk_iload_n hX dX12_mixBeasts_87 rfl ?_
      refine zk_imul hX dX12_mixBeasts_88 ?_
      refine zk_iload_n hX dX12_mixBeasts_89 rfl ?_
      refine zk_iadd hX dX12_mixBeasts_90 ?_
      refine zk_ialdE hX dX12_mixBeasts_91 (nI_addE (nI_mulE (nI_k 10 rfl) rfl) rfl) k_188 z_188 (by first | assumption | omega) rfl ?_
      rw [hF.1.2.1 188 (by decide) (by decide)]
      refine zk_i2l hX dX12_mixBeasts_92 ?_
      refine zk_V1v hX dX12_mixBeasts_93 kcX12_mix mlX12_409 viX12_mix rfl k_166 z_166 (s_X12_mix _) (Nat.le_of_ble_eq_true rfl) rfl ?_
      refine zk_iinc (lo' := [_, _, _]) hX dX12_mixBeasts_96 rfl (by first | exact zinc _ | exact rfl) (Nat.le_of_ble_eq_true rfl) rfl rfl ?_
      refine zk_goto (tgt := 65) hX dX12_mixBeasts_99 (by decide) ?_
      exact ih (i + 1) _ (by omega) (zFd_m _ hF)
  have l2 : ∀ k, k < 6 → bT b k = true → ∀ (q : Int64) (kk : ∀ w1 (a2 : Value), zFd w w1 (mx (zit (mY2 w k) 10 (zit (mU2 w k) 10 q)) (w.1 189 k)) → zk0 G X mX12_mixBeasts 122 [.ref 166, .int (nI k), a2] [] w1), ∀ m i w1, i + m = 10 → zFd w w1 (zit (mU2 w k) i q) → zk0 G X mX12_mixBeasts 26 [.ref 166, .int (nI k), .int (nI i)] [] w1 := by
    intro k hk ht q kk m
    induction m with
    | zero =>
      intro i w1 hi hF
      obtain rfl : i = 10 := by omega
      have hw1 := zFr_wf hF.1 hw
      refine zk_iload_n hX dX12_mixBeasts_26 rfl ?_
      refine zk_bipush (v := 10) hX dX12_mixBeasts_27 (by decide) ?_
      refine zk_icmp_ge (tgt := 63) hX dX12_mixBeasts_29 (by decide) (fun c29 => ?_) (fun c29 => ?_)
      rotate_left
      · exact absurd (by decide) c29
      refine zk_iconst (v := 0) hX dX12_mixBeasts_63 (by decide) ?_
      refine zk_istore_n (lo' := [_, _, _]) hX dX12_mixBeasts_64 (Nat.le_of_ble_eq_true rfl) rfl rfl ?_
      exact l3 k hk ht (zit (mU2 w k) 10 q) kk 10 0 w1 (by omega) (by rw [zit_0]; exact hF)
    | succ m ih =>
      intro i w1 hi hF
      have hw1 := zFr_wf hF.1 hw
      have hb := (mBs_f hB hF.1 (by decide) k hk).2.1
      refine zk_iload_n hX dX12_mixBeasts_26 rfl ?_
      refine zk_bipush (v := 10) hX dX12_mixBeasts_27 (by decide) ?_
      refine zk_icmp_ge (tgt := 63) hX dX12_mixBeasts_29 (by decide) (fun c29 => ?_) (fun c29 => ?_)
      · exact absurd c29 (nI_ge (b := 10) (by omega) (by decide))
      refine zk_aload_n hX dX12_mixBeasts_32 rfl ?_
      refine zk_getR hX dX12_mixBeasts_33 flX12_68 k_166 z_166 (hw1 _ _ (by decide) |>.trans r_166_37) ?_
      refine zk_iload_n hX dX12_mixBeasts_36 rfl ?_
      refine zk_zaldE hX dX12_mixBeasts_37 rfl k_186 z_186 (by first | assumption | omega) rfl ?_
      refine zk_if_eq (tgt := 63) hX dX12_mixBeasts_38 (by decide) (fun c38 => ?_) (fun c38 => ?_)
      · exact absurd c38 (hb.mpr ht)
      refine zk_aload_n hX dX12_mixBeasts_41 rfl ?_
      refine zk_aload_n hX dX12_mixBeasts_42 rfl ?_
      refine zk_getR hX dX12_mixBeasts_43 flX12_72 k_166 z_166 (hw1 _ _ (by decide) |>.trans r_166_38) ?_
      refine zk_bipush (v := 10) hX dX12_mixBeasts_46 (by decide) ?_
      refine zk_iload_n hX dX12_mixBeasts_48 rfl ?_
      refine zk_imul hX dX12_mixBeasts_49 ?_
      refine zk_iload_n hX dX12_mixBeasts_50 rfl ?_
      refine zk_iadd hX dX12_mixBeasts_51 ?_
      refine zk_ialdE hX dX12_mixBeasts_52 (nI_addE (nI_mulE (nI_k 10 rfl) rfl) rfl) k_187 z_187 (by first | assumption | omega) rfl ?_
      rw [hF.1.2.1 187 (by decide) (by decide)]
      refine zk_i2l hX dX12_mixBeasts_53 ?_
      refine zk_V1v hX dX12_mixBeasts_54 kcX12_mix mlX12_409 viX12_mix rfl k_166 z_166 (s_X12_mix _) (Nat.le_of_ble_eq_true rfl) rfl ?_
      refine zk_iinc (lo' := [_, _, _]) hX dX12_mixBeasts_57 rfl (by first | exact zinc _ | exact rfl) (Nat.le_of_ble_eq_true rfl) rfl rfl ?_
      refine zk_goto (tgt := 26) hX dX12_mixBeasts_60 (by decide) ?_
      exact ih (i + 1) _ (by omega) (zFd_m _ hF)
  have l1 : ∀ m i w1 (a2 : Value), i + m = 6 → zFd w w1 (zit (mBt w b) i (w.2.1 166 58)) → zk0 G X mX12_mixBeasts 2 [.ref 166, .int (nI i), a2] [] w1 := by
    intro m
    induction m with
    | zero =>
      intro i w1 a2 hi hF
      obtain rfl : i = 6 := by omega
      refine zk_iload_n hX dX12_mixBeasts_2 rfl ?_
      refine zk_bipush (v := 6) hX dX12_mixBeasts_3 (by decide) ?_
      refine zk_icmp_ge (tgt := 128) hX dX12_mixBeasts_5 (by decide) (fun c5 => ?_) (fun c5 => ?_)
      rotate_left
      · exact absurd (by decide) c5
      refine zk_iconst (v := 0) hX dX12_mixBeasts_128 (by decide) ?_
      refine zk_istore_n (lo' := [_, _, _]) hX dX12_mixBeasts_129 (Nat.le_of_ble_eq_true rfl) rfl rfl ?_
      exact l4 (3 * nl) 0 w1 _ (by omega) (by rw [zit_0]; exact hF)
    | succ m ih =>
      intro i w1 a2 hi hF
      have hw1 := zFr_wf hF.1 hw
      have hb := (mBs_f hB hF.1 (by decide) i (by omega)).2.1
      have nx : ∀ w2 (a2 : Value), zFd w w2 (mBt w b i (zit (mBt w b) i (w.2.1 166 58))) → zk0 G X mX12_mixBeasts 122 [.ref 166, .int (nI i), a2] [] w2 := by
        intro w2 a2 hF2
        refine zk_iinc (lo' := [_, _, _]) hX dX12_mixBeasts_122 rfl (by first | exact zinc _ | exact rfl) (Nat.le_of_ble_eq_true rfl) rfl rfl ?_
        refine zk_goto (tgt := 2) hX dX12_mixBeasts_125 (by decide) ?_
        exact ih (i + 1) w2 _ (by omega) hF2
      by_cases ht : bT b i = true
      · rw [mBt_t ht] at nx
        refine zk_iload_n hX dX12_mixBeasts_2 rfl ?_
        refine zk_bipush (v := 6) hX dX12_mixBeasts_3 (by decide) ?_
        refine zk_icmp_ge (tgt := 128) hX dX12_mixBeasts_5 (by decide) (fun c5 => ?_) (fun c5 => ?_)
        · exact absurd c5 (nI_ge (b := 6) (by omega) (by decide))
        refine zk_aload_n hX dX12_mixBeasts_8 rfl ?_
        refine zk_getR hX dX12_mixBeasts_9 flX12_68 k_166 z_166 (hw1 _ _ (by decide) |>.trans r_166_37) ?_
        refine zk_iload_n hX dX12_mixBeasts_12 rfl ?_
        refine zk_zaldE hX dX12_mixBeasts_13 rfl k_186 z_186 (by first | assumption | omega) rfl ?_
        refine zk_if_ne (tgt := 24) hX dX12_mixBeasts_14 (by decide) (fun c14 => ?_) (fun c14 => ?_)
        rotate_left
        · exact absurd c14 (hb.mpr ht)
        refine zk_iconst (v := 0) hX dX12_mixBeasts_24 (by decide) ?_
        refine zk_istore_n (lo' := [_, _, _]) hX dX12_mixBeasts_25 (Nat.le_of_ble_eq_true rfl) rfl rfl ?_
        exact l2 i (by omega) ht (zit (mBt w b) i (w.2.1 166 58)) nx 10 0 w1 (by omega) (by rw [zit_0]; exact hF)
      · rw [mBt_f ht] at nx
        have h0 : w1.1 186 i = 0 := Decidable.not_not.mp (fun q => ht (hb.mp q))
        have hm := zFd_m (-1) hF
        rw [em] at hm
        have hw2 := zFr_wf hm.1 hw
        refine zk_iload_n hX dX12_mixBeasts_2 rfl ?_
        refine zk_bipush (v := 6) hX dX12_mixBeasts_3 (by decide) ?_
        refine zk_icmp_ge (tgt := 128) hX dX12_mixBeasts_5 (by decide) (fun c5 => ?_) (fun c5 => ?_)
        · exact absurd c5 (nI_ge (b := 6) (by omega) (by decide))
        refine zk_aload_n hX dX12_mixBeasts_8 rfl ?_
        refine zk_getR hX dX12_mixBeasts_9 flX12_68 k_166 z_166 (hw1 _ _ (by decide) |>.trans r_166_37) ?_
        refine zk_iload_n hX dX12_mixBeasts_12 rfl ?_
        refine zk_zaldE hX dX12_mixBeasts_13 rfl k_186 z_186 (by first | assumption | omega) rfl ?_
        refine zk_if_ne (tgt := 24) hX dX12_mixBeasts_14 (by decide) (fun c14 => ?_) (fun c14 => ?_)
        · exact absurd c14 (fun q => q h0)
        refine zk_aload_n hX dX12_mixBeasts_17 rfl ?_
        refine zk_ldc2 hX dX12_mixBeasts_18 cnX12_413 ?_
        refine zk_V1v hX dX12_mixBeasts_21 kcX12_mix mlX12_409 viX12_mix rfl k_166 z_166 (s_X12_mix _) (Nat.le_of_ble_eq_true rfl) rfl ?_
        refine zk_iconst (v := 0) hX dX12_mixBeasts_24 (by decide) ?_
        refine zk_istore_n (lo' := [_, _, _]) hX dX12_mixBeasts_25 (Nat.le_of_ble_eq_true rfl) rfl rfl ?_
        refine zk_iload_n hX dX12_mixBeasts_26 rfl ?_
        refine zk_bipush (v := 10) hX dX12_mixBeasts_27 (by decide) ?_
        refine zk_icmp_ge (tgt := 63) hX dX12_mixBeasts_29 (by decide) (fun c29 => ?_) (fun c29 => ?_)
        · exact absurd c29 (by decide)
        refine zk_aload_n hX dX12_mixBeasts_32 rfl ?_
        refine zk_getR hX dX12_mixBeasts_33 flX12_68 k_166 z_166 (hw2 _ _ (by decide) |>.trans r_166_37) ?_
        refine zk_iload_n hX dX12_mixBeasts_36 rfl ?_
        refine zk_zaldE hX dX12_mixBeasts_37 rfl k_186 z_186 (by first | assumption | omega) rfl ?_
        refine zk_if_eq (tgt := 63) hX dX12_mixBeasts_38 (by decide) (fun c38 => ?_) (fun c38 => ?_)
        rotate_left
        · exact absurd h0 c38
        refine zk_iconst (v := 0) hX dX12_mixBeasts_63 (by decide) ?_
        refine zk_istore_n (lo' := [_, _, _]) hX dX12_mixBeasts_64 (Nat.le_of_ble_eq_true rfl) rfl rfl ?_
        refine zk_iload_n hX dX12_mixBeasts_65 rfl ?_
        refine zk_bipush (v := 10) hX dX12_mixBeasts_66 (by decide) ?_
        refine zk_icmp_ge (tgt := 102) hX dX12_mixBeasts_68 (by decide) (fun c68 => ?_) (fun c68 => ?_)
        · exact absurd c68 (by decide)
        refine zk_aload_n hX dX12_mixBeasts_71 rfl ?_
        refine zk_getR hX dX12_mixBeasts_72 flX12_68 k_166 z_166 (hw2 _ _ (by decide) |>.trans r_166_37) ?_
        refine zk_iload_n hX dX12_mixBeasts_75 rfl ?_
        refine zk_zaldE hX dX12_mixBeasts_76 rfl k_186 z_186 (by first | assumption | omega) rfl ?_
        refine zk_if_eq (tgt := 102) hX dX12_mixBeasts_77 (by decide) (fun c77 => ?_) (fun c77 => ?_)
        rotate_left
        · exact absurd h0 c77
        refine zk_aload_n hX dX12_mixBeasts_102 rfl ?_
        refine zk_getR hX dX12_mixBeasts_103 flX12_68 k_166 z_166 (hw2 _ _ (by decide) |>.trans r_166_37) ?_
        refine zk_iload_n hX dX12_mixBeasts_106 rfl ?_
        refine zk_zaldE hX dX12_mixBeasts_107 rfl k_186 z_186 (by first | assumption | omega) rfl ?_
        refine zk_if_eq (tgt := 122) hX dX12_mixBeasts_108 (by decide) (fun c108 => ?_) (fun c108 => ?_)
        rotate_left
        · exact absurd h0 c108
        exact nx _ _ hm
  refine zk_iconst (v := 0) hX dX12_mixBeasts_0 (by decide) ?_
  refine zk_istore_n (lo' := [_, _, _]) hX dX12_mixBeasts_1 (Nat.le_of_ble_eq_true rfl) rfl rfl ?_
  exact l1 6 0 w _ (by omega) (by rw [zit_0]; exact zFd_r)
