/-- held and throws just what is wanted -/
def mJ (D : zD) (z u v T : Nat) (W : zS) (i : Nat) : Bool := mQ D (-1) T i && decide (zT (mS D (-1) z u v i) = zT W ∧ zLo (mS D (-1) z u v i) = zLo W)
theorem rJ_code {D : zD} (hD : zDok D) {z u v T : Nat} {W : zS} {i : Nat} (hi : i < zpr (zsp D) (dJ D)) : rJ D (-1) z u v T W i = mJ D z u v T W i := by
  unfold rJ mJ mS
  rw [rH_code hD hi, rL_code hD]
  refine congrArg (fun b => mQ D (-1) T i && b) ?_
  rw [decide_eq_decide]
  exact ⟨fun q => ⟨q.1.symm, q.2.symm⟩, fun q => ⟨q.1.symm, q.2.symm⟩⟩
/-- between which turns they are -/
def mLH (w : zW) (P : Nat → Bool) (tf : Nat → Nat → Int32) (n nj : Nat) : Prop := ∀ j, j < nj → (∀ i, i < n → P i = true → w.1 192 j ≤ tf i j ∧ tf i j ≤ w.1 193 j) ∧ ((∃ i, i < n ∧ P i = true) → (∃ i, i < n ∧ P i = true ∧ tf i j = w.1 192 j) ∧ ∃ i, i < n ∧ P i = true ∧ tf i j = w.1 193 j)
theorem zcnt_0 {P : Nat → Bool} {n : Nat} : zcnt P n = 0 ↔ ∀ i, i < n → ¬ P i = true := by
  induction n with
  | zero => exact ⟨fun _ i h => absurd h (by omega), fun _ => rfl⟩
  | succ n ih =>
    by_cases h : P n = true
    · rw [zcnt_t h]
      exact ⟨fun q => by omega, fun q => absurd h (q n (by omega))⟩
    · rw [zcnt_f h, ih]
      constructor
      · intro q i hi
        rcases Nat.lt_succ_iff_lt_or_eq.mp hi with g | rfl
        · exact q i g
        · exact h
      · intro q i hi
        exact q i (by omega)
theorem s_X12_throwMany {G : zG} {w : zW} {D : zD} {T z u v : Nat} {W : zS} (hw : zWf w) (hM : mHd w D) (hD : zDok D) (hS : w.1 166 24 = nI T) (hT9 : T ≤ 99) (hN : zpr (zsp D) (dJ D) ≤ 4096) (hl : mLm w z u v) (ho : zlok z u v) (hW : mWn w W) :
    zCi G mX12_throwMany [.ref 166] w (fun r w' => r = nI (zcnt (mJ D z u v T W) (zpr (zsp D) (dJ D))) ∧ zFr [179, 180, 181, 182, 192, 193] [] [29] w w' ∧ mLH w' (mJ D z u v T W) (zcode_t D) (zpr (zsp D) (dJ D)) (dJ D)) := by
  have h6 := hD.1.2.2
  have hct := fun i => zcode_2 hD i
  generalize eN : zpr (zsp D) (dJ D) = N at *
  generalize eP : mJ D z u v T W = P
  have eJ : ∀ i, P i = true ↔ (mQ D (-1) T i = true ∧ zT (mS D (-1) z u v i) = zT W ∧ zLo (mS D (-1) z u v i) = zLo W) := by
    intro i
    rw [← eP]
    unfold mJ
    rw [Bool.and_eq_true, decide_eq_true_eq]
  refine zC_of (lo := [_, _, _, _, _]) kcX12_throwMany (Nat.le_of_ble_eq_true rfl) rfl (fun X hX hE => ?_)
  have loop : ∀ m i w1 (a : Value), i + m = N → zFr [179, 180, 181, 182, 192, 193] [] [29] w w1 → mLH w1 P (zcode_t D) i (dJ D) → zk0 G X mX12_throwMany 9 [.ref 166, .int (nI (zcnt P i)), .int (nI N), .int (nI i), a] [] w1 := by
    intro m
    induction m with
    | zero =>
      intro i w1 a hi hF g
      obtain rfl : i = N := by omega
      refine zk_iload_n hX dX12_throwMany_9 rfl ?_
      refine zk_iload_n hX dX12_throwMany_10 rfl ?_
      refine zk_icmp_ge (tgt := 151) hX dX12_throwMany_11 (by decide) (fun c11 => ?_) (fun c11 => ?_)
      rotate_left
      · exact absurd (nI_le (Nat.le_refl _) (by omega)) c11
      refine zk_iload_n hX dX12_throwMany_151 rfl ?_
      refine zk_iret hX hE rfl ⟨rfl, rfl⟩ dX12_throwMany_152 ⟨_, rfl, ?_⟩
      exact ⟨rfl, hF, g⟩
    | succ m ih =>
      intro i w1 a hi hF g
      have hw1 := zFr_wf hF hw
      have hM1 := mHd_f hM hF (by decide)
      have e24 := (hF.2.2.2 24 (by decide)).trans hS
      have hci := zcnt_le P i
      have k145n : ∀ w2, zFr [179, 180, 181, 182] [] [29] w1 w2 → ¬ P i = true → ∀ a, zk0 G X mX12_throwMany 145 [.ref 166, .int (nI (zcnt P i)), .int (nI N), .int (nI i), a] [] w2 := by
        intro w2 h2 hp a
        have h0 := ih (i + 1) w2 a (by omega) (zFr_t hF (zFr_s h2 (by decide))) (fun j hj => by
          rw [h2.2.1 192 (by decide) (by decide), h2.2.1 193 (by decide) (by decide)]
          have q := g j hj
          refine ⟨fun k hk hpk => ?_, fun hx => ?_⟩
          · rcases Nat.lt_succ_iff_lt_or_eq.mp hk with c | rfl
            · exact q.1 k c hpk
            · exact absurd hpk hp
          · obtain ⟨k, hk, hpk⟩ := hx
            rcases Nat.lt_succ_iff_lt_or_eq.mp hk with c | rfl
            · obtain ⟨⟨a1, a2, a3⟩, b1, b2, b3⟩ := q.2 ⟨k, c, hpk⟩
              exact ⟨⟨a1, by omega, a3⟩, b1, by omega, b3⟩
            · exact absurd hpk hp)
        rw [zcnt_f hp] at h0
        refine zk_iinc (lo' := [_, _, _, _, _]) hX dX12_throwMany_145 rfl (by first | exact zinc _ | exact rfl) (Nat.le_of_ble_eq_true rfl) rfl rfl ?_
        refine zk_goto (tgt := 9) hX dX12_throwMany_148 (by decide) ?_
        exact h0
      have inner : P i = true → ∀ y j w2, j + y = dJ D → zFr [179, 180, 181, 182, 192, 193] [] [29] w1 w2 → (∀ k, k < dJ D → w2.1 179 k = zcode_t D i k) → (∀ k, k < dJ D → if k < j then ((∀ i', i' < i + 1 → P i' = true → w2.1 192 k ≤ zcode_t D i' k ∧ zcode_t D i' k ≤ w2.1 193 k) ∧ (∃ i', i' < i + 1 ∧ P i' = true ∧ zcode_t D i' k = w2.1 192 k) ∧ ∃ i', i' < i + 1 ∧ P i' = true ∧ zcode_t D i' k = w2.1 193 k) else (w2.1 192 k = w1.1 192 k ∧ w2.1 193 k = w1.1 193 k)) → zk0 G X mX12_throwMany 37 [.ref 166, .int (nI (zcnt P i)), .int (nI N), .int (nI i), .int (nI j)] [] w2 := by
        intro hp y
        induction y with
        | zero =>
          intro j w2 hj h2 ht gg
          obtain rfl : j = dJ D := by omega
          have hM2 := mHd_f hM1 h2 (by decide)
          have h0 := fun a => ih (i + 1) w2 a (by omega) (zFr_t hF h2) (fun k hk => by
            have q := gg k hk
            rw [if_pos hk] at q
            exact ⟨q.1, fun _ => q.2⟩)
          rw [zcnt_t hp] at h0
          refine zk_iload hX dX12_throwMany_37 rfl ?_
          refine zk_aload_n hX dX12_throwMany_39 rfl ?_
          refine zk_getI hX dX12_throwMany_40 flX12_199 k_166 z_166 ?_
          rw [hM2.1.2.2]
          refine zk_icmp_ge (tgt := 142) hX dX12_throwMany_43 (by decide) (fun c43 => ?_) (fun c43 => ?_)
          rotate_left
          · exact absurd (nI_le (Nat.le_refl _) (by omega)) c43
          refine zk_iinc (lo' := [_, _, _, _, _]) hX dX12_throwMany_142 rfl (by first | exact zinc _ | exact rfl) (Nat.le_of_ble_eq_true rfl) rfl rfl ?_
          refine zk_iinc (lo' := [_, _, _, _, _]) hX dX12_throwMany_145 rfl (by first | exact zinc _ | exact rfl) (Nat.le_of_ble_eq_true rfl) rfl rfl ?_
          refine zk_goto (tgt := 9) hX dX12_throwMany_148 (by decide) ?_
          exact h0 _
        | succ y ih2 =>
          intro j w2 hj h2 ht gg
          have hw2 := zFr_wf h2 hw1
          have hM2 := mHd_f hM1 h2 (by decide)
          have gj := gg j (by omega)
          rw [if_neg (Nat.lt_irrefl _)] at gj
          have gw := g j (by omega)
          have etj := ht j (by omega)
          -- both bounds laid
          have fin : ∀ x y : Int32, ((∀ i', i' < i + 1 → P i' = true → x ≤ zcode_t D i' j) ∧ ∃ i', i' < i + 1 ∧ P i' = true ∧ zcode_t D i' j = x) → ((∀ i', i' < i + 1 → P i' = true → zcode_t D i' j ≤ y) ∧ ∃ i', i' < i + 1 ∧ P i' = true ∧ zcode_t D i' j = y) → zk0 G X mX12_throwMany 136 [.ref 166, .int (nI (zcnt P i)), .int (nI N), .int (nI i), .int (nI j)] [] (zsi (zsi w2 192 j x) 193 j y) := by
            intro x y hx hy
            have r1 : ∀ k, (zsi (zsi w2 192 j x) 193 j y).1 192 k = if k = j then x else w2.1 192 k := by
              intro k
              rw [zsi_1, if_neg (by omega), zsi_1]
              by_cases q : k = j
              · rw [if_pos ⟨rfl, q⟩, if_pos q]
              · rw [if_neg (fun z => q z.2), if_neg q]
            have r2 : ∀ k, (zsi (zsi w2 192 j x) 193 j y).1 193 k = if k = j then y else w2.1 193 k := by
              intro k
              rw [zsi_1]
              by_cases q : k = j
              · rw [if_pos ⟨rfl, q⟩, if_pos q]
              · rw [if_neg (fun z => q z.2), if_neg q, zsi_o (by decide)]
            refine zk_iinc (lo' := [_, _, _, _, _]) hX dX12_throwMany_136 rfl (by first | exact zinc _ | exact rfl) (Nat.le_of_ble_eq_true rfl) rfl rfl ?_
            refine zk_goto (tgt := 37) hX dX12_throwMany_139 (by decide) ?_
            refine ih2 (j + 1) _ (by omega) (zFr_t h2 (zFr_t (zFr_i (by decide) (by decide)) (zFr_i (by decide) (by decide)))) (fun k hk => by rw [zsi_o (by decide), zsi_o (by decide)]; exact ht k hk) (fun k hk => ?_)
            rw [r1, r2]
            rcases Nat.lt_trichotomy k j with c | c | c
            · have q := gg k hk
              rw [if_pos c] at q
              rw [if_pos (by omega), if_neg (by omega), if_neg (by omega)]
              exact q
            · subst c
              rw [if_pos (by omega), if_pos rfl, if_pos rfl]
              exact ⟨fun i' h1 h2 => ⟨hx.1 i' h1 h2, hy.1 i' h1 h2⟩, hx.2, hy.2⟩
            · have q := gg k hk
              rw [if_neg (by omega)] at q
              rw [if_neg (by omega), if_neg (by omega), if_neg (by omega)]
              exact q
          have nonz : ¬ nI (zcnt P i) = 0 → ∃ k, k < i ∧ P k = true := by
            intro hc
            rcases Decidable.em (zcnt P i = 0) with q | q
            · rw [q] at hc
              exact absurd rfl hc
            · rcases zfirst P i with c | ⟨k, k1, k2, _⟩
              · exact absurd (zcnt_0.mpr (fun k hk z => by rw [c k hk] at z; cases z)) q
              · exact ⟨k, k1, k2⟩
          have zer : nI (zcnt P i) = 0 → ∀ k, k < i → ¬ P k = true := by
            intro hc
            have : zcnt P i = 0 := (nI_eq (b := 0) (by omega) (by decide)).mp hc
            exact zcnt_0.mp this
          -- the lower one
          have lowNew : (∀ i', i' < i → P i' = true → zcode_t D i j ≤ zcode_t D i' j) → ((∀ i', i' < i + 1 → P i' = true → zcode_t D i j ≤ zcode_t D i' j) ∧ ∃ i', i' < i + 1 ∧ P i' = true ∧ zcode_t D i' j = zcode_t D i j) := by
            intro q
            refine ⟨fun i' h1 h2 => ?_, i, by omega, hp, rfl⟩
            rcases Nat.lt_succ_iff_lt_or_eq.mp h1 with c | rfl
            · exact q i' c h2
            · exact Int32.le_refl _
          have highNew : (∀ i', i' < i → P i' = true → zcode_t D i' j ≤ zcode_t D i j) → ((∀ i', i' < i + 1 → P i' = true → zcode_t D i' j ≤ zcode_t D i j) ∧ ∃ i', i' < i + 1 ∧ P i' = true ∧ zcode_t D i' j = zcode_t D i j) := by
            intro q
            refine ⟨fun i' h1 h2 => ?_, i, by omega, hp, rfl⟩
            rcases Nat.lt_succ_iff_lt_or_eq.mp h1 with c | rfl
            · exact q i' c h2
            · exact Int32.le_refl _
          have high : ∀ x, ((∀ i', i' < i + 1 → P i' = true → x ≤ zcode_t D i' j) ∧ ∃ i', i' < i + 1 ∧ P i' = true ∧ zcode_t D i' j = x) → zk0 G X mX12_throwMany 91 [.ref 166, .int (nI (zcnt P i)), .int (nI N), .int (nI i), .int (nI j)] [] (zsi w2 192 j x) := by
            intro x hx
            have e3 : (zsi w2 192 j x).1 193 j = w1.1 193 j := by rw [zsi_o (by decide)]; exact gj.2
            have e9 : (zsi w2 192 j x).1 179 j = zcode_t D i j := by rw [zsi_o (by decide)]; exact etj
            refine zk_aload_n hX dX12_throwMany_91 rfl ?_
            refine zk_getR hX dX12_throwMany_92 flX12_90 k_166 z_166 ((zWf_i hw2) _ _ (by decide) |>.trans r_166_45) ?_
            refine zk_iload hX dX12_throwMany_95 rfl ?_
            refine zk_iload_n hX dX12_throwMany_97 rfl ?_
            refine zk_if_eq (tgt := 118) hX dX12_throwMany_98 (by decide) (fun c98 => ?_) (fun c98 => ?_)
            · refine zk_aload_n hX dX12_throwMany_118 rfl ?_
              refine zk_getR hX dX12_throwMany_119 flX12_47 k_166 z_166 ((zWf_i hw2) _ _ (by decide) |>.trans r_166_28) ?_
              refine zk_iload hX dX12_throwMany_122 rfl ?_
              refine zk_ialdE hX dX12_throwMany_124 rfl k_179 z_179 (by first | assumption | omega) rfl ?_
              rw [e9]
              refine zk_goto (tgt := 135) hX dX12_throwMany_125 (by decide) ?_
              try rw [e3]
              refine zk_iastE hX dX12_throwMany_135 rfl k_193 z_193 (by first | assumption | omega) rfl ?_
              refine fin x _ hx ?_
              first
                | (refine highNew (fun i' h1 h2 => absurd h2 (zer (by first | exact c98 | exact Decidable.not_not.mp c98) i' h1)))
                | (have hz := nonz c98
                   refine highNew (fun i' h1 h2 => ?_)
                   have q1 := (gw.1 i' h1 h2).2
                   have q2 : w1.1 193 j < zcode_t D i j := Int32.not_le.mp c115
                   grind)
                | (have hz := nonz c98
                   obtain ⟨k, k1, k2, k3⟩ := (gw.2 hz).2
                   refine ⟨fun i' h1 h2 => ?_, k, by omega, k2, k3⟩
                   rcases Nat.lt_succ_iff_lt_or_eq.mp h1 with c | rfl
                   · exact (gw.1 i' c h2).2
                   · exact c115)
            · refine zk_aload_n hX dX12_throwMany_101 rfl ?_
              refine zk_getR hX dX12_throwMany_102 flX12_47 k_166 z_166 ((zWf_i hw2) _ _ (by decide) |>.trans r_166_28) ?_
              refine zk_iload hX dX12_throwMany_105 rfl ?_
              refine zk_ialdE hX dX12_throwMany_107 rfl k_179 z_179 (by first | assumption | omega) rfl ?_
              rw [e9]
              refine zk_aload_n hX dX12_throwMany_108 rfl ?_
              refine zk_getR hX dX12_throwMany_109 flX12_90 k_166 z_166 ((zWf_i hw2) _ _ (by decide) |>.trans r_166_45) ?_
              refine zk_iload hX dX12_throwMany_112 rfl ?_
              refine zk_ialdE hX dX12_throwMany_114 rfl k_193 z_193 (by first | assumption | omega) rfl ?_
              rw [e3]
              refine zk_icmp_le (tgt := 128) hX dX12_throwMany_115 (by decide) (fun c115 => ?_) (fun c115 => ?_)
              · refine zk_aload_n hX dX12_throwMany_128 rfl ?_
                refine zk_getR hX dX12_throwMany_129 flX12_90 k_166 z_166 ((zWf_i hw2) _ _ (by decide) |>.trans r_166_45) ?_
                refine zk_iload hX dX12_throwMany_132 rfl ?_
                refine zk_ialdE hX dX12_throwMany_134 rfl k_193 z_193 (by first | assumption | omega) rfl ?_
                try rw [e3]
                refine zk_iastE hX dX12_throwMany_135 rfl k_193 z_193 (by first | assumption | omega) rfl ?_
                refine fin x _ hx ?_
                first
                  | (refine highNew (fun i' h1 h2 => absurd h2 (zer (by first | exact c98 | exact Decidable.not_not.mp c98) i' h1)))
                  | (have hz := nonz c98
                     refine highNew (fun i' h1 h2 => ?_)
                     have q1 := (gw.1 i' h1 h2).2
                     have q2 : w1.1 193 j < zcode_t D i j := Int32.not_le.mp c115
                     grind)
                  | (have hz := nonz c98
                     obtain ⟨k, k1, k2, k3⟩ := (gw.2 hz).2
                     refine ⟨fun i' h1 h2 => ?_, k, by omega, k2, k3⟩
                     rcases Nat.lt_succ_iff_lt_or_eq.mp h1 with c | rfl
                     · exact (gw.1 i' c h2).2
                     · exact c115)
              · refine zk_aload_n hX dX12_throwMany_118 rfl ?_
                refine zk_getR hX dX12_throwMany_119 flX12_47 k_166 z_166 ((zWf_i hw2) _ _ (by decide) |>.trans r_166_28) ?_
                refine zk_iload hX dX12_throwMany_122 rfl ?_
                refine zk_ialdE hX dX12_throwMany_124 rfl k_179 z_179 (by first | assumption | omega) rfl ?_
                rw [e9]
                refine zk_goto (tgt := 135) hX dX12_throwMany_125 (by decide) ?_
                try rw [e3]
                refine zk_iastE hX dX12_throwMany_135 rfl k_193 z_193 (by first | assumption | omega) rfl ?_
                refine fin x _ hx ?_
                first
                  | (refine highNew (fun i' h1 h2 => absurd h2 (zer (by first | exact c98 | exact Decidable.not_not.mp c98) i' h1)))
                  | (have hz := nonz c98
                     refine highNew (fun i' h1 h2 => ?_)
                     have q1 := (gw.1 i' h1 h2).2
                     have q2 : w1.1 193 j < zcode_t D i j := Int32.not_le.mp c115
                     grind)
                  | (have hz := nonz c98
                     obtain ⟨k, k1, k2, k3⟩ := (gw.2 hz).2
                     refine ⟨fun i' h1 h2 => ?_, k, by omega, k2, k3⟩
                     rcases Nat.lt_succ_iff_lt_or_eq.mp h1 with c | rfl
                     · exact (gw.1 i' c h2).2
                     · exact c115)
          refine zk_iload hX dX12_throwMany_37 rfl ?_
          refine zk_aload_n hX dX12_throwMany_39 rfl ?_
          refine zk_getI hX dX12_throwMany_40 flX12_199 k_166 z_166 ?_
          rw [hM2.1.2.2]
          refine zk_icmp_ge (tgt := 142) hX dX12_throwMany_43 (by decide) (fun c43 => ?_) (fun c43 => ?_)
          · exact absurd c43 (nI_ge (by omega) (by omega))
          refine zk_aload_n hX dX12_throwMany_46 rfl ?_
          refine zk_getR hX dX12_throwMany_47 flX12_87 k_166 z_166 (hw2 _ _ (by decide) |>.trans r_166_44) ?_
          refine zk_iload hX dX12_throwMany_50 rfl ?_
          refine zk_iload_n hX dX12_throwMany_52 rfl ?_
          refine zk_if_eq (tgt := 73) hX dX12_throwMany_53 (by decide) (fun c53 => ?_) (fun c53 => ?_)
          · refine zk_aload_n hX dX12_throwMany_73 rfl ?_
            refine zk_getR hX dX12_throwMany_74 flX12_47 k_166 z_166 (hw2 _ _ (by decide) |>.trans r_166_28) ?_
            refine zk_iload hX dX12_throwMany_77 rfl ?_
            refine zk_ialdE hX dX12_throwMany_79 rfl k_179 z_179 (by first | assumption | omega) rfl ?_
            rw [etj]
            refine zk_goto (tgt := 90) hX dX12_throwMany_80 (by decide) ?_
            try rw [gj.1]
            refine zk_iastE hX dX12_throwMany_90 rfl k_192 z_192 (by first | assumption | omega) rfl ?_
            refine high _ ?_
            first
              | (refine lowNew (fun i' h1 h2 => absurd h2 (zer (by first | exact c53 | exact Decidable.not_not.mp c53) i' h1)))
              | (have hz := nonz c53
                 refine lowNew (fun i' h1 h2 => ?_)
                 have q1 := (gw.1 i' h1 h2).1
                 have q2 : zcode_t D i j < w1.1 192 j := Int32.not_le.mp c70
                 grind)
              | (have hz := nonz c53
                 obtain ⟨k, k1, k2, k3⟩ := (gw.2 hz).1
                 refine ⟨fun i' h1 h2 => ?_, k, by omega, k2, k3⟩
                 rcases Nat.lt_succ_iff_lt_or_eq.mp h1 with c | rfl
                 · exact (gw.1 i' c h2).1
                 · exact c70)
          · refine zk_aload_n hX dX12_throwMany_56 rfl ?_
            refine zk_getR hX dX12_throwMany_57 flX12_47 k_166 z_166 (hw2 _ _ (by decide) |>.trans r_166_28) ?_
            refine zk_iload hX dX12_throwMany_60 rfl ?_
            refine zk_ialdE hX dX12_throwMany_62 rfl k_179 z_179 (by first | assumption | omega) rfl ?_
            rw [etj]
            refine zk_aload_n hX dX12_throwMany_63 rfl ?_
            refine zk_getR hX dX12_throwMany_64 flX12_87 k_166 z_166 (hw2 _ _ (by decide) |>.trans r_166_44) ?_
            refine zk_iload hX dX12_throwMany_67 rfl ?_
            refine zk_ialdE hX dX12_throwMany_69 rfl k_192 z_192 (by first | assumption | omega) rfl ?_
            rw [gj.1]
            refine zk_icmp_ge (tgt := 83) hX dX12_throwMany_70 (by decide) (fun c70 => ?_) (fun c70 => ?_)
            · refine zk_aload_n hX dX12_throwMany_83 rfl ?_
              refine zk_getR hX dX12_throwMany_84 flX12_87 k_166 z_166 (hw2 _ _ (by decide) |>.trans r_166_44) ?_
              refine zk_iload hX dX12_throwMany_87 rfl ?_
              refine zk_ialdE hX dX12_throwMany_89 rfl k_192 z_192 (by first | assumption | omega) rfl ?_
              try rw [gj.1]
              refine zk_iastE hX dX12_throwMany_90 rfl k_192 z_192 (by first | assumption | omega) rfl ?_
              refine high _ ?_
              first
                | (refine lowNew (fun i' h1 h2 => absurd h2 (zer (by first | exact c53 | exact Decidable.not_not.mp c53) i' h1)))
                | (have hz := nonz c53
                   refine lowNew (fun i' h1 h2 => ?_)
                   have q1 := (gw.1 i' h1 h2).1
                   have q2 : zcode_t D i j < w1.1 192 j := Int32.not_le.mp c70
                   grind)
                | (have hz := nonz c53
                   obtain ⟨k, k1, k2, k3⟩ := (gw.2 hz).1
                   refine ⟨fun i' h1 h2 => ?_, k, by omega, k2, k3⟩
                   rcases Nat.lt_succ_iff_lt_or_eq.mp h1 with c | rfl
                   · exact (gw.1 i' c h2).1
                   · exact c70)
            · refine zk_aload_n hX dX12_throwMany_73 rfl ?_
              refine zk_getR hX dX12_throwMany_74 flX12_47 k_166 z_166 (hw2 _ _ (by decide) |>.trans r_166_28) ?_
              refine zk_iload hX dX12_throwMany_77 rfl ?_
              refine zk_ialdE hX dX12_throwMany_79 rfl k_179 z_179 (by first | assumption | omega) rfl ?_
              rw [etj]
              refine zk_goto (tgt := 90) hX dX12_throwMany_80 (by decide) ?_
              try rw [gj.1]
              refine zk_iastE hX dX12_throwMany_90 rfl k_192 z_192 (by first | assumption | omega) rfl ?_
              refine high _ ?_
              first
                | (refine lowNew (fun i' h1 h2 => absurd h2 (zer (by first | exact c53 | exact Decidable.not_not.mp c53) i' h1)))
                | (have hz := nonz c53
                   refine lowNew (fun i' h1 h2 => ?_)
                   have q1 := (gw.1 i' h1 h2).1
                   have q2 : zcode_t D i j < w1.1 192 j := Int32.not_le.mp c70
                   grind)
                | (have hz := nonz c53
                   obtain ⟨k, k1, k2, k3⟩ := (gw.2 hz).1
                   refine ⟨fun i' h1 h2 => ?_, k, by omega, k2, k3⟩
                   rcases Nat.lt_succ_iff_lt_or_eq.mp h1 with c | rfl
                   · exact (gw.1 i' c h2).1
                   · exact c70)
      refine zk_iload_n hX dX12_throwMany_9 rfl ?_
      refine zk_iload_n hX dX12_throwMany_10 rfl ?_
      refine zk_icmp_ge (tgt := 151) hX dX12_throwMany_11 (by decide) (fun c11 => ?_) (fun c11 => ?_)
      · exact absurd c11 (nI_ge (by omega) (by omega))
      refine zk_aload_n hX dX12_throwMany_14 rfl ?_
      refine zk_iload_n hX dX12_throwMany_15 rfl ?_
      refine zk_iconst (v := -1) hX dX12_throwMany_16 (by decide) ?_
      refine zk_V2ip hX dX12_throwMany_17 kcX12_isHeld mlX12_332 viX12_isHeld rfl k_166 z_166 (s_X12_isHeld hw1 hM1 hD (Or.inl rfl) e24 hT9 (by omega)) (Nat.le_of_ble_eq_true rfl) rfl (fun r w2 q2 => ?_)
      obtain ⟨rfl, a1, a2, a3⟩ := q2
      have hw2 := zFr_wf a1 hw1
      have hF2 := zFr_t hF (zFr_s a1 (by decide))
      refine zk_if_eqB (tgt := 145) hX dX12_throwMany_20 (by decide) (fun c20 => ?_) (fun c20 => ?_)
      · first
        | exact k145n w2 (zFr_s a1 (by decide)) (fun z => c20 (mQ_t.mp ((eJ i).mp z).1)) _
        | exact k145n w3 (zFr_t (zFr_s a1 (by decide)) (zFr_s q3.1 (by decide))) (fun z => c31 ((eJ i).mp z).2) _
      · refine zk_aload_n hX dX12_throwMany_23 rfl ?_
        refine zk_V0vp hX dX12_throwMany_24 kcX12_layThrown mlX12_311 viX12_layThrown rfl k_166 z_166 (s_X12_layThrown hw2 a3 (zP_len hD _ _) (mLm_o hl ⟨hF2.2.2.2 25 (by decide), hF2.2.2.2 26 (by decide), hF2.2.2.2 27 (by decide)⟩) ho) (Nat.le_of_ble_eq_true rfl) rfl (fun w3 q3 => ?_)
        have hw3 := zFr_wf q3.1 hw2
        have hWn3 : mWn w3 W := fun y hy => by rw [q3.1.2.1 191 (by decide) (by decide), hF2.2.1 191 (by decide) (by decide)]; exact hW y hy
        refine zk_aload_n hX dX12_throwMany_27 rfl ?_
        refine zk_V0i hX dX12_throwMany_28 kcX12_isWanted mlX12_346 viX12_isWanted rfl k_166 z_166 (s_X12_isWanted hw3 q3.2 hWn3) (Nat.le_of_ble_eq_true rfl) rfl ?_
        refine zk_if_eqB (tgt := 145) hX dX12_throwMany_31 (by decide) (fun c31 => ?_) (fun c31 => ?_)
        · first
          | exact k145n w2 (zFr_s a1 (by decide)) (fun z => c20 (mQ_t.mp ((eJ i).mp z).1)) _
          | exact k145n w3 (zFr_t (zFr_s a1 (by decide)) (zFr_s q3.1 (by decide))) (fun z => c31 ((eJ i).mp z).2) _
        · refine zk_iconst (v := 0) hX dX12_throwMany_34 (by decide) ?_
          refine zk_istore (lo' := [_, _, _, _, _]) hX dX12_throwMany_35 (Nat.le_of_ble_eq_true rfl) rfl rfl ?_
          have hp : P i = true := (eJ i).mpr ⟨mQ_t.mpr (by first | exact c20 | exact Decidable.not_not.mp c20), by first | exact c31 | exact Decidable.not_not.mp c31⟩
          refine inner hp (dJ D) 0 w3 (by omega) (zFr_t (zFr_s a1 (by decide)) (zFr_s q3.1 (by decide))) (fun k hk => by rw [q3.1.2.1 179 (by decide) (by decide)]; exact a2 k hk) (fun k hk => ?_)
          rw [if_neg (by omega)]
          exact ⟨by rw [q3.1.2.1 192 (by decide) (by decide), a1.2.1 192 (by decide) (by decide)], by rw [q3.1.2.1 193 (by decide) (by decide), a1.2.1 193 (by decide) (by decide)]⟩
  have cT := s_X12_turnsMany (G := G) hw hM hD
  rw [eN] at cT
  refine zk_iconst (v := 0) hX dX12_throwMany_0 (by decide) ?_
  refine zk_istore_n (lo' := [_, _, _, _, _]) hX dX12_throwMany_1 (Nat.le_of_ble_eq_true rfl) rfl rfl ?_
  refine zk_aload_n hX dX12_throwMany_2 rfl ?_
  refine zk_V0i hX dX12_throwMany_3 kcX12_turnsMany mlX12_329 viX12_turnsMany rfl k_166 z_166 cT (Nat.le_of_ble_eq_true rfl) rfl ?_
  refine zk_istore_n (lo' := [_, _, _, _, _]) hX dX12_throwMany_6 (Nat.le_of_ble_eq_true rfl) rfl rfl ?_
  refine zk_iconst (v := 0) hX dX12_throwMany_7 (by decide) ?_
  refine zk_istore_n (lo' := [_, _, _, _, _]) hX dX12_throwMany_8 (Nat.le_of_ble_eq_true rfl) rfl rfl ?_
  exact loop N 0 w _ (by omega) zFr_r (fun j _ => ⟨fun i hi => absurd hi (by omega), fun h => by obtain ⟨i, hi, _⟩ := h; exact absurd hi (by omega)⟩)
