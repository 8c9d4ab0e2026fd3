/-! copy -/
theorem n64 {k : Nat} (h : k < 2 ^ 31) : (nI k).toInt64 = lN k := by
  apply Int64.toInt_inj.mp
  rw [Int32.toInt_toInt64]
  have h1 : (lN k).toInt = k := Int64.toInt_ofNat_of_lt (by omega)
  have h2 : (nI k).toInt = k := Int32.toInt_ofNat_of_lt h
  rw [h1, h2]
theorem zgt {a b : Nat} (ha : a < 2 ^ 63) (hb : b < 2 ^ 63) : 0 < lg_cmp (lN a) (lN b) ↔ b < a := by
  have e1 := lN_ltN ha hb
  have e2 := lN_ltN hb ha
  unfold lg_cmp
  by_cases h1 : lN b < lN a
  · rw [if_pos (show lN a > lN b from h1)]
    exact ⟨fun _ => e2.mp h1, fun _ => by decide⟩
  · rw [if_neg (show ¬ lN a > lN b from h1)]
    refine ⟨fun q => ?_, fun q => absurd (e2.mpr q) h1⟩
    by_cases h2 : lN a = lN b
    · rw [if_pos h2] at q
      exact absurd q (by decide)
    · rw [if_neg h2] at q
      exact absurd q (by decide)
theorem zsum64 {i n m : Nat} (hi : i < 2 ^ 31) (hn : n < 2 ^ 31) (hm : m ≤ 40) : 0 < lg_cmp ((nI i).toInt64 + (nI n).toInt64) ((nI m).toInt64) ↔ m < i + n := by
  rw [n64 hi, n64 hn, n64 (by omega), show lN i + lN n = lN (i + n) from (Int64.ofNat_add i n).symm, zgt (by omega) (by omega)]
theorem s_X12_copy_b {G : zG} {w : zW} (hw : zWf w) {r t n m m' : Nat} (hr : r < 6) (ht : t < 6) (i j : Int32) (hn : n < 2 ^ 31) (hm : m ≤ 40) (hm' : m' ≤ 40) (hS : w.1 168 r = nI m) (hS' : w.1 168 t = nI m') (hb : i < 0 ∨ j < 0 ∨ ∃ i' j', i = nI i' ∧ j = nI j' ∧ i' < 2 ^ 31 ∧ j' < 2 ^ 31 ∧ (m < i' + n ∨ m' < j' + n)) : zEi G mX12_copy [.ref 166, .int (nI r), .int i, .int (nI t), .int j, .int (nI n)] w (-3) (mfind w 2) := by
  have g1 : 0 ≤ w.1 168 r := by rw [hS]; exact nI_pos' (by omega)
  have g2 : 0 ≤ w.1 168 t := by rw [hS']; exact nI_pos' (by omega)
  refine zC_of (lo := [_, _, _, _, _, _, _]) kcX12_copy (Nat.le_of_ble_eq_true rfl) rfl (fun X hX hE => ?_)
  refine zk_iload_n hX dX12_copy_0 rfl ?_
  refine zk_S1i hX dX12_copy_1 kcX12_isRow mlX12_141 smX12_isRow rfl (s_X12_isRow _) (Nat.le_of_ble_eq_true rfl) rfl ?_
  refine zk_if_eqB (tgt := 14) hX dX12_copy_4 (by decide) (fun c4 => ?_) (fun c4 => ?_)
  · exact absurd c4 (not_not_intro (zrle (n := 5) (by omega)))
  refine zk_iload_n hX dX12_copy_7 rfl ?_
  refine zk_S1i hX dX12_copy_8 kcX12_isRow mlX12_141 smX12_isRow rfl (s_X12_isRow _) (Nat.le_of_ble_eq_true rfl) rfl ?_
  refine zk_if_neB (tgt := 16) hX dX12_copy_11 (by decide) (fun c11 => ?_) (fun c11 => ?_)
  rotate_left
  · exact absurd (zrle (n := 5) (by omega)) c11
  refine zk_iload hX dX12_copy_16 rfl ?_
  refine zk_if_ge (tgt := 27) hX dX12_copy_18 (by decide) (fun c18 => ?_) (fun c18 => ?_)
  rotate_left
  · exact absurd (nI_pos' (by omega)) c18
  refine zk_aload_n hX dX12_copy_27 rfl ?_
  refine zk_getR hX dX12_copy_28 flX12_13 k_166 z_166 (hw _ _ (by decide) |>.trans r_166_5) ?_
  refine zk_iload_n hX dX12_copy_31 rfl ?_
  refine zk_ialdE hX dX12_copy_32 rfl k_168 z_168 (by first | assumption | omega) rfl ?_
  refine zk_if_lt (tgt := 45) hX dX12_copy_33 (by decide) (fun c33 => ?_) (fun c33 => ?_)
  · exact absurd c33 (Int32.not_lt.mpr g1)
  refine zk_aload_n hX dX12_copy_36 rfl ?_
  refine zk_getR hX dX12_copy_37 flX12_13 k_166 z_166 (hw _ _ (by decide) |>.trans r_166_5) ?_
  refine zk_iload_n hX dX12_copy_40 rfl ?_
  refine zk_ialdE hX dX12_copy_41 rfl k_168 z_168 (by first | assumption | omega) rfl ?_
  refine zk_if_ge (tgt := 51) hX dX12_copy_42 (by decide) (fun c42 => ?_) (fun c42 => ?_)
  rotate_left
  · exact absurd g2 c42
  refine zk_iload_n hX dX12_copy_51 rfl ?_
  refine zk_if_lt (tgt := 95) hX dX12_copy_52 (by decide) (fun c52 => ?_) (fun c52 => ?_)
  · refine zk_aload_n hX dX12_copy_95 rfl ?_
    refine zk_iconst (v := 2) hX dX12_copy_96 (by decide) ?_
    refine zk_V1i hX dX12_copy_97 kcX12_meets mlX12_145 viX12_meets rfl k_166 z_166 (s_X12_meets hw _ (by decide)) (Nat.le_of_ble_eq_true rfl) rfl ?_
    refine zk_iret hX hE rfl ⟨rfl, rfl⟩ dX12_copy_100 ⟨_, rfl, ?_⟩
    exact ⟨rfl, rfl⟩
  · refine zk_iload hX dX12_copy_55 rfl ?_
    refine zk_if_lt (tgt := 95) hX dX12_copy_57 (by decide) (fun c57 => ?_) (fun c57 => ?_)
    · refine zk_aload_n hX dX12_copy_95 rfl ?_
      refine zk_iconst (v := 2) hX dX12_copy_96 (by decide) ?_
      refine zk_V1i hX dX12_copy_97 kcX12_meets mlX12_145 viX12_meets rfl k_166 z_166 (s_X12_meets hw _ (by decide)) (Nat.le_of_ble_eq_true rfl) rfl ?_
      refine zk_iret hX hE rfl ⟨rfl, rfl⟩ dX12_copy_100 ⟨_, rfl, ?_⟩
      exact ⟨rfl, rfl⟩
    · refine zk_iload_n hX dX12_copy_60 rfl ?_
      refine zk_i2l hX dX12_copy_61 ?_
      refine zk_iload hX dX12_copy_62 rfl ?_
      refine zk_i2l hX dX12_copy_64 ?_
      refine zk_ladd hX dX12_copy_65 ?_
      refine zk_aload_n hX dX12_copy_66 rfl ?_
      refine zk_getR hX dX12_copy_67 flX12_13 k_166 z_166 (hw _ _ (by decide) |>.trans r_166_5) ?_
      refine zk_iload_n hX dX12_copy_70 rfl ?_
      refine zk_ialdE hX dX12_copy_71 rfl k_168 z_168 (by first | assumption | omega) rfl ?_
      rw [hS]
      refine zk_i2l hX dX12_copy_72 ?_
      refine zk_lcmp hX dX12_copy_73 ?_
      refine zk_if_gt (tgt := 95) hX dX12_copy_74 (by decide) (fun c74 => ?_) (fun c74 => ?_)
      · refine zk_aload_n hX dX12_copy_95 rfl ?_
        refine zk_iconst (v := 2) hX dX12_copy_96 (by decide) ?_
        refine zk_V1i hX dX12_copy_97 kcX12_meets mlX12_145 viX12_meets rfl k_166 z_166 (s_X12_meets hw _ (by decide)) (Nat.le_of_ble_eq_true rfl) rfl ?_
        refine zk_iret hX hE rfl ⟨rfl, rfl⟩ dX12_copy_100 ⟨_, rfl, ?_⟩
        exact ⟨rfl, rfl⟩
      · refine zk_iload hX dX12_copy_77 rfl ?_
        refine zk_i2l hX dX12_copy_79 ?_
        refine zk_iload hX dX12_copy_80 rfl ?_
        refine zk_i2l hX dX12_copy_82 ?_
        refine zk_ladd hX dX12_copy_83 ?_
        refine zk_aload_n hX dX12_copy_84 rfl ?_
        refine zk_getR hX dX12_copy_85 flX12_13 k_166 z_166 (hw _ _ (by decide) |>.trans r_166_5) ?_
        refine zk_iload_n hX dX12_copy_88 rfl ?_
        refine zk_ialdE hX dX12_copy_89 rfl k_168 z_168 (by first | assumption | omega) rfl ?_
        rw [hS']
        refine zk_i2l hX dX12_copy_90 ?_
        refine zk_lcmp hX dX12_copy_91 ?_
        refine zk_if_le (tgt := 101) hX dX12_copy_92 (by decide) (fun c92 => ?_) (fun c92 => ?_)
        · exfalso
          rcases hb with h | h | ⟨i', j', rfl, rfl, hi, hj, h⟩
          · exact c52 h
          · exact c57 h
          · rw [zsum64 hi hn hm] at c74
            rcases h with h | h
            · exact c74 h
            · have c92' : ¬ 0 < lg_cmp ((nI j').toInt64 + (nI n).toInt64) ((nI m').toInt64) := Int32.not_lt.mpr c92
              rw [zsum64 hj hn hm'] at c92'
              exact c92' h
        · refine zk_aload_n hX dX12_copy_95 rfl ?_
          refine zk_iconst (v := 2) hX dX12_copy_96 (by decide) ?_
          refine zk_V1i hX dX12_copy_97 kcX12_meets mlX12_145 viX12_meets rfl k_166 z_166 (s_X12_meets hw _ (by decide)) (Nat.le_of_ble_eq_true rfl) rfl ?_
          refine zk_iret hX hE rfl ⟨rfl, rfl⟩ dX12_copy_100 ⟨_, rfl, ?_⟩
          exact ⟨rfl, rfl⟩
theorem s_X12_copy_ok {G : zG} {w : zW} (hw : zWf w) {r t i j n m m' : Nat} (hr : r < 6) (ht : t < 6) (hm : m ≤ 40) (hm' : m' ≤ 40) (hS : w.1 168 r = nI m) (hS' : w.1 168 t = nI m') (h1 : i + n ≤ m) (h2 : j + n ≤ m') :
    zCi G mX12_copy [.ref 166, .int (nI r), .int (nI i), .int (nI t), .int (nI j), .int (nI n)] w (fun a w' => a = 1 ∧ zFr [169, 170] [] [] w w' ∧ ∀ q, w'.1 169 q = if 40 * t + j ≤ q ∧ q < 40 * t + j + n then w.1 169 (40 * r + i + (q - (40 * t + j))) else w.1 169 q) := by
  have g1 : 0 ≤ w.1 168 r := by rw [hS]; exact nI_pos' (by omega)
  have g2 : 0 ≤ w.1 168 t := by rw [hS']; exact nI_pos' (by omega)
  refine zC_of (lo := [_, _, _, _, _, _, _]) kcX12_copy (Nat.le_of_ble_eq_true rfl) rfl (fun X hX hE => ?_)
  have loop2 : ∀ z k w1, k + z = n → zFr [169, 170] [] [] w w1 → (∀ q, q < n → w1.1 170 q = w.1 169 (40 * r + i + q)) → (∀ q, w1.1 169 q = if 40 * t + j ≤ q ∧ q < 40 * t + j + k then w.1 169 (40 * r + i + (q - (40 * t + j))) else w.1 169 q) → zk0 G X mX12_copy 136 [.ref 166, .int (nI r), .int (nI i), .int (nI t), .int (nI j), .int (nI n), .int (nI k)] [] w1 := by
    intro z
    induction z with
    | zero =>
      intro k w1 hk hF e1 e2
      obtain rfl : k = n := by omega
      have hw1 := zFr_wf hF hw
      refine zk_iload hX dX12_copy_136 rfl ?_
      refine zk_iload hX dX12_copy_138 rfl ?_
      refine zk_icmp_ge (tgt := 171) hX dX12_copy_140 (by decide) (fun c140 => ?_) (fun c140 => ?_)
      rotate_left
      · exact absurd (nI_le (Nat.le_refl _) (by omega)) c140
      refine zk_iconst (v := 1) hX dX12_copy_171 (by decide) ?_
      refine zk_iret hX hE rfl ⟨rfl, rfl⟩ dX12_copy_172 ⟨_, rfl, ?_⟩
      exact ⟨rfl, hF, e2⟩
    | succ z ih =>
      intro k w1 hk hF e1 e2
      have hw1 := zFr_wf hF hw
      refine zk_iload hX dX12_copy_136 rfl ?_
      refine zk_iload hX dX12_copy_138 rfl ?_
      refine zk_icmp_ge (tgt := 171) hX dX12_copy_140 (by decide) (fun c140 => ?_) (fun c140 => ?_)
      · exact absurd c140 (nI_ge (by omega) (by omega))
      refine zk_aload_n hX dX12_copy_143 rfl ?_
      refine zk_getR hX dX12_copy_144 flX12_16 k_166 z_166 (hw1 _ _ (by decide) |>.trans r_166_6) ?_
      refine zk_bipush (v := 40) hX dX12_copy_147 (by decide) ?_
      refine zk_iload_n hX dX12_copy_149 rfl ?_
      refine zk_imul hX dX12_copy_150 ?_
      refine zk_iload hX dX12_copy_151 rfl ?_
      refine zk_iadd hX dX12_copy_153 ?_
      refine zk_iload hX dX12_copy_154 rfl ?_
      refine zk_iadd hX dX12_copy_156 ?_
      refine zk_aload_n hX dX12_copy_157 rfl ?_
      refine zk_getR hX dX12_copy_158 flX12_19 k_166 z_166 (hw1 _ _ (by decide) |>.trans r_166_7) ?_
      refine zk_iload hX dX12_copy_161 rfl ?_
      refine zk_ialdE hX dX12_copy_163 rfl k_170 z_170 (by first | assumption | omega) rfl ?_
      rw [e1 k (by omega)]
      refine zk_iastE hX dX12_copy_164 (nI_addE (nI_addE (nI_mulE (nI_k 40 rfl) rfl) rfl) rfl) k_169 z_169 (by first | assumption | omega) rfl ?_
      refine zk_iinc (lo' := [_, _, _, _, _, _, _]) hX dX12_copy_165 rfl (by first | exact zinc _ | exact rfl) (Nat.le_of_ble_eq_true rfl) rfl rfl ?_
      refine zk_goto (tgt := 136) hX dX12_copy_168 (by decide) ?_
      refine ih (k + 1) _ (by omega) (zFr_t hF (zFr_i (by decide) (by decide))) (fun q hq => by rw [zsi_o (by decide)]; exact e1 q hq) (fun q => ?_)
      rw [zsi_1, e2]
      by_cases e : q = 40 * t + j + k
      · rw [if_pos ⟨rfl, e⟩, if_pos (by omega), e, show 40 * t + j + k - (40 * t + j) = k by omega]
      · rw [if_neg (fun z => e z.2)]
        by_cases e3 : 40 * t + j ≤ q ∧ q < 40 * t + j + k
        · rw [if_pos e3, if_pos (by omega)]
        · rw [if_neg e3, if_neg (by omega)]
  have loop1 : ∀ z k w1, k + z = n → zFr [170] [] [] w w1 → (∀ q, q < k → w1.1 170 q = w.1 169 (40 * r + i + q)) → zk0 G X mX12_copy 104 [.ref 166, .int (nI r), .int (nI i), .int (nI t), .int (nI j), .int (nI n), .int (nI k)] [] w1 := by
    intro z
    induction z with
    | zero =>
      intro k w1 hk hF e1
      obtain rfl : k = n := by omega
      have hw1 := zFr_wf hF hw
      refine zk_iload hX dX12_copy_104 rfl ?_
      refine zk_iload hX dX12_copy_106 rfl ?_
      refine zk_icmp_ge (tgt := 133) hX dX12_copy_108 (by decide) (fun c108 => ?_) (fun c108 => ?_)
      rotate_left
      · exact absurd (nI_le (Nat.le_refl _) (by omega)) c108
      refine zk_iconst (v := 0) hX dX12_copy_133 (by decide) ?_
      refine zk_istore (lo' := [_, _, _, _, _, _, _]) hX dX12_copy_134 (Nat.le_of_ble_eq_true rfl) rfl rfl ?_
      exact loop2 k 0 w1 (by omega) (zFr_s hF (by decide)) e1 (fun q => by rw [if_neg (by omega), hF.2.1 169 (by decide) (by decide)])
    | succ z ih =>
      intro k w1 hk hF e1
      have hw1 := zFr_wf hF hw
      refine zk_iload hX dX12_copy_104 rfl ?_
      refine zk_iload hX dX12_copy_106 rfl ?_
      refine zk_icmp_ge (tgt := 133) hX dX12_copy_108 (by decide) (fun c108 => ?_) (fun c108 => ?_)
      · exact absurd c108 (nI_ge (by omega) (by omega))
      refine zk_aload_n hX dX12_copy_111 rfl ?_
      refine zk_getR hX dX12_copy_112 flX12_19 k_166 z_166 (hw1 _ _ (by decide) |>.trans r_166_7) ?_
      refine zk_iload hX dX12_copy_115 rfl ?_
      refine zk_aload_n hX dX12_copy_117 rfl ?_
      refine zk_iload_n hX dX12_copy_118 rfl ?_
      refine zk_iload_n hX dX12_copy_119 rfl ?_
      refine zk_iload hX dX12_copy_120 rfl ?_
      refine zk_iadd hX dX12_copy_122 ?_
      rw [nI_add]
      refine zk_V2i hX dX12_copy_123 kcX12_rowAt mlX12_149 viX12_rowAt rfl k_166 z_166 (s_X12_rowAt hw1 (by omega)) (Nat.le_of_ble_eq_true rfl) rfl ?_
      rw [hF.2.1 169 (by decide) (by decide), show 40 * r + (i + k) = 40 * r + i + k by omega]
      refine zk_iastE hX dX12_copy_126 rfl k_170 z_170 (by first | assumption | omega) rfl ?_
      refine zk_iinc (lo' := [_, _, _, _, _, _, _]) hX dX12_copy_127 rfl (by first | exact zinc _ | exact rfl) (Nat.le_of_ble_eq_true rfl) rfl rfl ?_
      refine zk_goto (tgt := 104) hX dX12_copy_130 (by decide) ?_
      refine ih (k + 1) _ (by omega) (zFr_t hF (zFr_i (by decide) (by decide))) (fun q hq => ?_)
      rw [zsi_1]
      by_cases e : q = k
      · subst e
        rw [if_pos ⟨rfl, rfl⟩]
      · rw [if_neg (fun z => e z.2)]
        exact e1 q (by omega)
  refine zk_iload_n hX dX12_copy_0 rfl ?_
  refine zk_S1i hX dX12_copy_1 kcX12_isRow mlX12_141 smX12_isRow rfl (s_X12_isRow _) (Nat.le_of_ble_eq_true rfl) rfl ?_
  refine zk_if_eqB (tgt := 14) hX dX12_copy_4 (by decide) (fun c4 => ?_) (fun c4 => ?_)
  · exact absurd c4 (not_not_intro (zrle (n := 5) (by omega)))
  refine zk_iload_n hX dX12_copy_7 rfl ?_
  refine zk_S1i hX dX12_copy_8 kcX12_isRow mlX12_141 smX12_isRow rfl (s_X12_isRow _) (Nat.le_of_ble_eq_true rfl) rfl ?_
  refine zk_if_neB (tgt := 16) hX dX12_copy_11 (by decide) (fun c11 => ?_) (fun c11 => ?_)
  rotate_left
  · exact absurd (zrle (n := 5) (by omega)) c11
  refine zk_iload hX dX12_copy_16 rfl ?_
  refine zk_if_ge (tgt := 27) hX dX12_copy_18 (by decide) (fun c18 => ?_) (fun c18 => ?_)
  rotate_left
  · exact absurd (nI_pos' (by omega)) c18
  refine zk_aload_n hX dX12_copy_27 rfl ?_
  refine zk_getR hX dX12_copy_28 flX12_13 k_166 z_166 (hw _ _ (by decide) |>.trans r_166_5) ?_
  refine zk_iload_n hX dX12_copy_31 rfl ?_
  refine zk_ialdE hX dX12_copy_32 rfl k_168 z_168 (by first | assumption | omega) rfl ?_
  refine zk_if_lt (tgt := 45) hX dX12_copy_33 (by decide) (fun c33 => ?_) (fun c33 => ?_)
  · exact absurd c33 (Int32.not_lt.mpr g1)
  refine zk_aload_n hX dX12_copy_36 rfl ?_
  refine zk_getR hX dX12_copy_37 flX12_13 k_166 z_166 (hw _ _ (by decide) |>.trans r_166_5) ?_
  refine zk_iload_n hX dX12_copy_40 rfl ?_
  refine zk_ialdE hX dX12_copy_41 rfl k_168 z_168 (by first | assumption | omega) rfl ?_
  refine zk_if_ge (tgt := 51) hX dX12_copy_42 (by decide) (fun c42 => ?_) (fun c42 => ?_)
  rotate_left
  · exact absurd g2 c42
  refine zk_iload_n hX dX12_copy_51 rfl ?_
  refine zk_if_lt (tgt := 95) hX dX12_copy_52 (by decide) (fun c52 => ?_) (fun c52 => ?_)
  · exact absurd c52 (Int32.not_lt.mpr (nI_pos' (by omega)))
  refine zk_iload hX dX12_copy_55 rfl ?_
  refine zk_if_lt (tgt := 95) hX dX12_copy_57 (by decide) (fun c57 => ?_) (fun c57 => ?_)
  · exact absurd c57 (Int32.not_lt.mpr (nI_pos' (by omega)))
  refine zk_iload_n hX dX12_copy_60 rfl ?_
  refine zk_i2l hX dX12_copy_61 ?_
  refine zk_iload hX dX12_copy_62 rfl ?_
  refine zk_i2l hX dX12_copy_64 ?_
  refine zk_ladd hX dX12_copy_65 ?_
  refine zk_aload_n hX dX12_copy_66 rfl ?_
  refine zk_getR hX dX12_copy_67 flX12_13 k_166 z_166 (hw _ _ (by decide) |>.trans r_166_5) ?_
  refine zk_iload_n hX dX12_copy_70 rfl ?_
  refine zk_ialdE hX dX12_copy_71 rfl k_168 z_168 (by first | assumption | omega) rfl ?_
  rw [hS]
  refine zk_i2l hX dX12_copy_72 ?_
  refine zk_lcmp hX dX12_copy_73 ?_
  refine zk_if_gt (tgt := 95) hX dX12_copy_74 (by decide) (fun c74 => ?_) (fun c74 => ?_)
  · exact absurd c74 (fun q => by rw [zsum64 (by omega) (by omega) hm] at q; omega)
  refine zk_iload hX dX12_copy_77 rfl ?_
  refine zk_i2l hX dX12_copy_79 ?_
  refine zk_iload hX dX12_copy_80 rfl ?_
  refine zk_i2l hX dX12_copy_82 ?_
  refine zk_ladd hX dX12_copy_83 ?_
  refine zk_aload_n hX dX12_copy_84 rfl ?_
  refine zk_getR hX dX12_copy_85 flX12_13 k_166 z_166 (hw _ _ (by decide) |>.trans r_166_5) ?_
  refine zk_iload_n hX dX12_copy_88 rfl ?_
  refine zk_ialdE hX dX12_copy_89 rfl k_168 z_168 (by first | assumption | omega) rfl ?_
  rw [hS']
  refine zk_i2l hX dX12_copy_90 ?_
  refine zk_lcmp hX dX12_copy_91 ?_
  refine zk_if_le (tgt := 101) hX dX12_copy_92 (by decide) (fun c92 => ?_) (fun c92 => ?_)
  rotate_left
  · exact absurd (Int32.not_lt.mp (fun q => by rw [zsum64 (by omega) (by omega) hm'] at q; omega)) c92
  refine zk_iconst (v := 0) hX dX12_copy_101 (by decide) ?_
  refine zk_istore (lo' := [_, _, _, _, _, _, _]) hX dX12_copy_102 (Nat.le_of_ble_eq_true rfl) rfl rfl ?_
  exact loop1 n 0 w (by omega) zFr_r (fun q hq => absurd hq (by omega))
