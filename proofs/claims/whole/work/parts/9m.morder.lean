/-! order: the model's table, and what it tells -/
theorem s_X12_has {G : zG} {w : zW} {d x : Nat} (hd : d < 2 ^ 31) (hx : x < 32) : zEi G mX12_has [.int (nI d), .int (nI x)] w (zb (d.testBit x = true)) w := by
  by_cases q : d.testBit x = true
  · have hb : nI (d >>> x) &&& 1 = 1 := by rw [bit1, if_pos q]
    refine zC_of (lo := [_, _]) kcX12_has (Nat.le_of_ble_eq_true rfl) rfl (fun X hX hE => ?_)
    refine zk_iload_n hX dX12_has_0 rfl ?_
    refine zk_iload_n hX dX12_has_1 rfl ?_
    refine zk_ishr hX dX12_has_2 ?_
    rw [nI_shr hd hx]
    refine zk_iconst (v := 1) hX dX12_has_3 (by decide) ?_
    refine zk_iand hX dX12_has_4 ?_
    rw [hb]
    refine zk_iconst (v := 1) hX dX12_has_5 (by decide) ?_
    refine zk_icmp_ne (tgt := 13) hX dX12_has_6 (by decide) (fun c6 => ?_) (fun c6 => ?_)
    · exact absurd c6 (fun z => z rfl)
    refine zk_iconst (v := 1) hX dX12_has_9 (by decide) ?_
    refine zk_goto (tgt := 14) hX dX12_has_10 (by decide) ?_
    refine zk_zret hX hE rfl ⟨rfl, rfl⟩ dX12_has_14 rfl ⟨_, rfl, ?_⟩
    exact ⟨zb_t' q, rfl⟩
  · have hb : nI (d >>> x) &&& 1 = 0 := by rw [bit1, if_neg q]
    refine zC_of (lo := [_, _]) kcX12_has (Nat.le_of_ble_eq_true rfl) rfl (fun X hX hE => ?_)
    refine zk_iload_n hX dX12_has_0 rfl ?_
    refine zk_iload_n hX dX12_has_1 rfl ?_
    refine zk_ishr hX dX12_has_2 ?_
    rw [nI_shr hd hx]
    refine zk_iconst (v := 1) hX dX12_has_3 (by decide) ?_
    refine zk_iand hX dX12_has_4 ?_
    rw [hb]
    refine zk_iconst (v := 1) hX dX12_has_5 (by decide) ?_
    refine zk_icmp_ne (tgt := 13) hX dX12_has_6 (by decide) (fun c6 => ?_) (fun c6 => ?_)
    rotate_left
    · exact absurd c6 (by decide)
    refine zk_iconst (v := 0) hX dX12_has_13 (by decide) ?_
    refine zk_zret hX hE rfl ⟨rfl, rfl⟩ dX12_has_14 rfl ⟨_, rfl, ?_⟩
    exact ⟨zb_f' q, rfl⟩
theorem oBit {s d x : Nat} (hd : d ≤ oAll s) (hx : x < s) (h : d.testBit x = false) : ¬ d = oAll s := fun e => by
  rw [e, oAll_e, Nat.testBit_two_pow_sub_one] at h
  simp [hx] at h
theorem oAll_bit {s x : Nat} (hx : x < s) : (oAll s).testBit x = true := by
  rw [oAll_e, Nat.testBit_two_pow_sub_one]
  simp [hx]
def oU (s : Nat) (W : Nat → Nat → Option Nat) (U : Nat → Nat → Nat) (d l k : Nat) : Nat := if d = oAll s then 0 else oMin (oP2 W d l) (oG2 W U d l) k
theorem oU_le {s : Nat} {W : Nat → Nat → Option Nat} {U : Nat → Nat → Nat} {d l k : Nat} : oU s W U d l k ≤ 1000000 := by
  unfold oU
  split
  · omega
  · exact oMin_le _ _ _
theorem oU_n {s : Nat} {W : Nat → Nat → Option Nat} {U : Nat → Nat → Nat} {d l k : Nat} (h : ¬ oP2 W d l k = true) : oU s W U d l (k + 1) = oU s W U d l k := by
  unfold oU
  split
  · rfl
  · exact oMin_f h
theorem oRec2_le {s lo d l : Nat} {W : Nat → Nat → Option Nat} {U : Nat → Nat → Nat} (h : oRec2 s W U lo) (h1 : lo < d) (h2 : d ≤ oAll s) (hl : l < s) : U d l ≤ 1000000 := by
  rw [h d h1 h2 l hl]
  split
  · omega
  · exact oMin_le _ _ _
theorem s_X12_layToCome {G : zG} {w : zW} {s : Nat} {W : Nat → Nat → Option Nat} (hw : zWf w) (hs8 : s ≤ 8) (hs : w.1 166 49 = nI s) (hW : ∀ i k, i < s → k < s → w.1 198 (8 * i + k) = zoe (W i k) ∧ ∀ m, W i k = some m → m < 4096) :
    zCv G mX12_layToCome [.ref 166] w (fun w' => zFr [199] [] [] w w' ∧ ∃ U, oRec2 s W U 0 ∧ ∀ d, 0 < d → d ≤ oAll s → ∀ l, l < s → w'.1 199 (8 * d + l) = nI (U d l)) := by
  have hs9 := oAll_8 hs8
  have eL : (1000000 : Int32) = nI 1000000 := rfl
  refine zC_of (lo := [_, _, _, _, _, _, _, _]) kcX12_layToCome (Nat.le_of_ble_eq_true rfl) rfl (fun X hX hE => ?_)
  have outer : ∀ m w1 U (a3 a4 a5 a6 a7 : Value), m ≤ oAll s → zFr [199] [] [] w w1 → oRec2 s W U m → (∀ d, m < d → d ≤ oAll s → ∀ l, l < s → w1.1 199 (8 * d + l) = nI (U d l)) → zk0 G X mX12_layToCome 11 [.ref 166, .int (nI (oAll s)), .int (nI m), a3, a4, a5, a6, a7] [] w1 := by
    intro m
    induction m with
    | zero =>
      intro w1 U a3 a4 a5 a6 a7 hm hF hR hC
      refine zk_iload_n hX dX12_layToCome_11 rfl ?_
      refine zk_if_le (tgt := 156) hX dX12_layToCome_12 (by decide) (fun c12 => ?_) (fun c12 => ?_)
      rotate_left
      · exact absurd (by decide) c12
      refine zk_vret hX hE rfl ⟨rfl, rfl⟩ dX12_layToCome_156 ⟨rfl, ?_⟩
      exact ⟨hF, U, hR, hC⟩
    | succ d ih =>
      intro w1 U a3 a4 a5 a6 a7 hm hF hR hC
      have mid : ∀ z l w2 (a4 a5 a6 a7 : Value), l + z = s → zFr [199] [] [] w1 w2 → (∀ d', d + 1 < d' → d' ≤ oAll s → ∀ l, l < s → w2.1 199 (8 * d' + l) = nI (U d' l)) → (∀ j, j < l → w2.1 199 (8 * (d + 1) + j) = nI (oU s W U (d + 1) j s)) → zk0 G X mX12_layToCome 17 [.ref 166, .int (nI (oAll s)), .int (nI (d + 1)), .int (nI l), a4, a5, a6, a7] [] w2 := by
        intro z
        induction z with
        | zero =>
          intro l w2 a4 a5 a6 a7 hl hF2 g1 g2
          obtain rfl : s = l := by omega
          have hFw := zFr_t hF hF2
          have hw2 := zFr_wf hFw hw
          refine zk_iload_n hX dX12_layToCome_17 rfl ?_
          refine zk_aload_n hX dX12_layToCome_18 rfl ?_
          refine zk_getI hX dX12_layToCome_19 flX12_368 k_166 z_166 ?_
          refine zk_icmp_ge (tgt := 150) hX dX12_layToCome_22 (by decide) (fun c22 => ?_) (fun c22 => ?_)
          rotate_left
          · exact absurd (by rw [hFw.2.2.2 49 (by decide), hs]; exact nI_le (Nat.le_refl _) (by omega)) c22
          refine zk_iinc (lo' := [_, _, _, _, _, _, _, _]) hX dX12_layToCome_150 rfl (by exact zdec1 _) (Nat.le_of_ble_eq_true rfl) rfl rfl ?_
          refine zk_goto (tgt := 11) hX dX12_layToCome_153 (by decide) ?_
          rw [show nI (d + 1) - 1 = nI d from nI_pred d]
          refine ih w2 (fun d' l => if d' = d + 1 then oU s W U (d + 1) l s else U d' l) _ _ _ _ _ (by omega) hFw ?_ (fun d' h1 h2 l hl => ?_)
          · intro d' h1 h2 l hl
            have same : ∀ e, d + 1 ≤ e → e ≤ oAll s → ∀ y, oMin (oP2 W e y) (oG2 W (fun d' l => if d' = d + 1 then oU s W U (d + 1) l s else U d' l) e y) s = oMin (oP2 W e y) (oG2 W U e y) s := fun e he he2 y => by
              refine oMin_e (fun x hx => ?_)
              by_cases q : oP2 W e y x = true
              · rw [if_pos q, if_pos q]
                have qq : oP e x = true := by
                  unfold oP2 at q
                  rw [Bool.and_eq_true] at q
                  exact q.1
                have := oAdd_gt (oP_t.mp qq)
                show min 1000000 ((W y x).getD 0 + (if e ||| 1 <<< x = d + 1 then oU s W U (d + 1) x s else U (e ||| 1 <<< x) x)) = min 1000000 ((W y x).getD 0 + U (e ||| 1 <<< x) x)
                rw [if_neg (by omega)]
              · rw [if_neg q, if_neg q]
            show (if d' = d + 1 then oU s W U (d + 1) l s else U d' l) = if d' = oAll s then 0 else oMin (oP2 W d' l) (oG2 W (fun d' l => if d' = d + 1 then oU s W U (d + 1) l s else U d' l) d' l) s
            rw [same d' (by omega) h2 l]
            by_cases e : d' = d + 1
            · rw [if_pos e, e]
              rfl
            · rw [if_neg e]
              exact hR d' (by omega) h2 l hl
          · show w2.1 199 (8 * d' + l) = nI (if d' = d + 1 then oU s W U (d + 1) l s else U d' l)
            by_cases e : d' = d + 1
            · rw [if_pos e, e]
              exact g2 l hl
            · rw [if_neg e]
              exact g1 d' (by omega) h2 l hl
        | succ z ihz =>
          intro l w2 a4 a5 a6 a7 hl hF2 g1 g2
          have hFw := zFr_t hF hF2
          have hw2 := zFr_wf hFw hw
          have hs2 : w2.1 166 49 = nI s := by rw [hFw.2.2.2 49 (by decide)]; exact hs
          have nx : ∀ a5 a6 a7 : Value, zk0 G X mX12_layToCome 17 [.ref 166, .int (nI (oAll s)), .int (nI (d + 1)), .int (nI (l + 1)), .int (nI (oU s W U (d + 1) l s)), a5, a6, a7] [] (zsi w2 199 (8 * (d + 1) + l) (nI (oU s W U (d + 1) l s))) := by
            intro a5 a6 a7
            refine ihz (l + 1) _ _ _ _ _ (by omega) (zFr_t hF2 (zFr_i (by decide) (by decide))) (fun d' h1 h2 j hj => ?_) (fun j hj => ?_)
            · rw [zsi_1, if_neg (by omega)]
              exact g1 d' h1 h2 j hj
            · rw [zsi_1]
              by_cases e : j = l
              · rw [if_pos ⟨rfl, by rw [e]⟩, e]
              · rw [if_neg (by omega)]
                exact g2 j (by omega)
          have inn : ∀ y k (a6 a7 : Value), k + y = s → zk0 G X mX12_layToCome 42 [.ref 166, .int (nI (oAll s)), .int (nI (d + 1)), .int (nI l), .int (nI (oU s W U (d + 1) l k)), .int (nI k), a6, a7] [] w2 := by
            intro y
            induction y with
            | zero =>
              intro k a6 a7 hk
              obtain rfl : k = s := by omega
              refine zk_iload hX dX12_layToCome_42 rfl ?_
              refine zk_aload_n hX dX12_layToCome_44 rfl ?_
              refine zk_getI hX dX12_layToCome_45 flX12_368 k_166 z_166 ?_
              refine zk_icmp_ge (tgt := 131) hX dX12_layToCome_48 (by decide) (fun c48 => ?_) (fun c48 => ?_)
              rotate_left
              · exact absurd (by rw [hs2]; exact nI_le (Nat.le_refl _) (by omega)) c48
              refine zk_aload_n hX dX12_layToCome_131 rfl ?_
              refine zk_getR hX dX12_layToCome_132 flX12_108 k_166 z_166 (hw2 _ _ (by decide) |>.trans r_166_52) ?_
              refine zk_bipush (v := 8) hX dX12_layToCome_135 (by decide) ?_
              refine zk_iload_n hX dX12_layToCome_137 rfl ?_
              refine zk_imul hX dX12_layToCome_138 ?_
              refine zk_iload_n hX dX12_layToCome_139 rfl ?_
              refine zk_iadd hX dX12_layToCome_140 ?_
              refine zk_iload hX dX12_layToCome_141 rfl ?_
              refine zk_iastE hX dX12_layToCome_143 (nI_addE (nI_mulE (nI_k 8 rfl) rfl) rfl) k_199 z_199 (by first | assumption | omega) rfl ?_
              refine zk_iinc (lo' := [_, _, _, _, _, _, _, _]) hX dX12_layToCome_144 rfl (by first | exact zinc _ | exact rfl) (Nat.le_of_ble_eq_true rfl) rfl rfl ?_
              refine zk_goto (tgt := 17) hX dX12_layToCome_147 (by decide) ?_
              exact nx _ _ _
            | succ y ihy =>
              intro k a6 a7 hk
              have hks : k < s := by omega
              have h9 := fun a6 a7 => ihy (k + 1) a6 a7 (by omega)
              have u1 := oU_le (s := s) (W := W) (U := U) (d := d + 1) (l := l) (k := k)
              obtain ⟨w1a, w1b⟩ := hW l k (by omega) hks
              have eW : w2.1 198 (8 * l + k) = zoe (W l k) := by rw [hFw.2.1 198 (by decide) (by decide)]; exact w1a
              have ch := s_X12_has (G := G) (w := w2) (d := d + 1) (x := k) (by omega) (by omega)
              have stay : oU s W U (d + 1) l (k + 1) = oU s W U (d + 1) l k → ∀ a6 : Int32, zk0 G X mX12_layToCome 107 [.ref 166, .int (nI (oAll s)), .int (nI (d + 1)), .int (nI l), .int (nI (oU s W U (d + 1) l k)), .int (nI k), .int a6, a7] [.int 1000000] w2 := by
                intro e a6
                rw [e] at h9
                refine zk_istore (lo' := [_, _, _, _, _, _, _, _]) hX dX12_layToCome_107 (Nat.le_of_ble_eq_true rfl) rfl rfl ?_
                refine zk_iload hX dX12_layToCome_109 rfl ?_
                refine zk_iload hX dX12_layToCome_111 rfl ?_
                refine zk_icmp_ge (tgt := 121) hX dX12_layToCome_113 (by decide) (fun c113 => ?_) (fun c113 => ?_)
                rotate_left
                · exact absurd (by rw [eL]; exact nI_le u1 (by decide)) c113
                refine zk_iload hX dX12_layToCome_121 rfl ?_
                refine zk_istore (lo' := [_, _, _, _, _, _, _, _]) hX dX12_layToCome_123 (Nat.le_of_ble_eq_true rfl) rfl rfl ?_
                refine zk_iinc (lo' := [_, _, _, _, _, _, _, _]) hX dX12_layToCome_125 rfl (by first | exact zinc _ | exact rfl) (Nat.le_of_ble_eq_true rfl) rfl rfl ?_
                refine zk_goto (tgt := 42) hX dX12_layToCome_128 (by decide) ?_
                exact h9 _ _
              by_cases q : (d + 1).testBit k = true
              · have hn : ¬ oP2 W (d + 1) l k = true := fun z => by
                  unfold oP2 at z
                  rw [Bool.and_eq_true, oP_t, q] at z
                  exact absurd z.1 (by decide)
                refine zk_iload hX dX12_layToCome_42 rfl ?_
                refine zk_aload_n hX dX12_layToCome_44 rfl ?_
                refine zk_getI hX dX12_layToCome_45 flX12_368 k_166 z_166 ?_
                refine zk_icmp_ge (tgt := 131) hX dX12_layToCome_48 (by decide) (fun c48 => ?_) (fun c48 => ?_)
                · exact absurd c48 (by rw [hs2]; exact nI_ge (by omega) (by omega))
                refine zk_aload_n hX dX12_layToCome_51 rfl ?_
                refine zk_getR hX dX12_layToCome_52 flX12_105 k_166 z_166 (hw2 _ _ (by decide) |>.trans r_166_51) ?_
                refine zk_bipush (v := 8) hX dX12_layToCome_55 (by decide) ?_
                refine zk_iload_n hX dX12_layToCome_57 rfl ?_
                refine zk_imul hX dX12_layToCome_58 ?_
                refine zk_iload hX dX12_layToCome_59 rfl ?_
                refine zk_iadd hX dX12_layToCome_61 ?_
                refine zk_ialdE hX dX12_layToCome_62 (nI_addE (nI_mulE (nI_k 8 rfl) rfl) rfl) k_198 z_198 (by first | assumption | omega) rfl ?_
                rw [eW]
                refine zk_istore (lo' := [_, _, _, _, _, _, _, _]) hX dX12_layToCome_63 (Nat.le_of_ble_eq_true rfl) rfl rfl ?_
                refine zk_iload_n hX dX12_layToCome_65 rfl ?_
                refine zk_iload hX dX12_layToCome_66 rfl ?_
                refine zk_S2i hX dX12_layToCome_68 kcX12_has mlX12_372 smX12_has rfl ch (Nat.le_of_ble_eq_true rfl) rfl ?_
                refine zk_if_neB (tgt := 81) hX dX12_layToCome_71 (by decide) (fun c71 => ?_) (fun c71 => ?_)
                rotate_left
                · exact absurd q c71
                refine zk_ldcw hX dX12_layToCome_81 cnX12_371 ?_
                refine zk_goto (tgt := 107) hX dX12_layToCome_84 (by decide) ?_
                exact stay (oU_n hn) _
              · have q0 : (d + 1).testBit k = false := Bool.eq_false_iff.mpr q
                cases ew : W l k with
                | none =>
                  have hn : ¬ oP2 W (d + 1) l k = true := fun z => by
                    unfold oP2 at z
                    rw [Bool.and_eq_true, ew] at z
                    exact absurd z.2 (by decide)
                  rw [ew] at eW
                  refine zk_iload hX dX12_layToCome_42 rfl ?_
                  refine zk_aload_n hX dX12_layToCome_44 rfl ?_
                  refine zk_getI hX dX12_layToCome_45 flX12_368 k_166 z_166 ?_
                  refine zk_icmp_ge (tgt := 131) hX dX12_layToCome_48 (by decide) (fun c48 => ?_) (fun c48 => ?_)
                  · exact absurd c48 (by rw [hs2]; exact nI_ge (by omega) (by omega))
                  refine zk_aload_n hX dX12_layToCome_51 rfl ?_
                  refine zk_getR hX dX12_layToCome_52 flX12_105 k_166 z_166 (hw2 _ _ (by decide) |>.trans r_166_51) ?_
                  refine zk_bipush (v := 8) hX dX12_layToCome_55 (by decide) ?_
                  refine zk_iload_n hX dX12_layToCome_57 rfl ?_
                  refine zk_imul hX dX12_layToCome_58 ?_
                  refine zk_iload hX dX12_layToCome_59 rfl ?_
                  refine zk_iadd hX dX12_layToCome_61 ?_
                  refine zk_ialdE hX dX12_layToCome_62 (nI_addE (nI_mulE (nI_k 8 rfl) rfl) rfl) k_198 z_198 (by first | assumption | omega) rfl ?_
                  rw [eW]
                  refine zk_istore (lo' := [_, _, _, _, _, _, _, _]) hX dX12_layToCome_63 (Nat.le_of_ble_eq_true rfl) rfl rfl ?_
                  refine zk_iload_n hX dX12_layToCome_65 rfl ?_
                  refine zk_iload hX dX12_layToCome_66 rfl ?_
                  refine zk_S2i hX dX12_layToCome_68 kcX12_has mlX12_372 smX12_has rfl ch (Nat.le_of_ble_eq_true rfl) rfl ?_
                  refine zk_if_neB (tgt := 81) hX dX12_layToCome_71 (by decide) (fun c71 => ?_) (fun c71 => ?_)
                  · exact absurd c71 q
                  refine zk_iload hX dX12_layToCome_74 rfl ?_
                  refine zk_bipush (v := -9) hX dX12_layToCome_76 (by decide) ?_
                  refine zk_icmp_ne (tgt := 87) hX dX12_layToCome_78 (by decide) (fun c78 => ?_) (fun c78 => ?_)
                  · exact absurd c78 (fun z => z rfl)
                  refine zk_ldcw hX dX12_layToCome_81 cnX12_371 ?_
                  refine zk_goto (tgt := 107) hX dX12_layToCome_84 (by decide) ?_
                  exact stay (oU_n hn) _
                | some m =>
                  have hm9 := w1b m ew
                  rw [ew] at eW
                  have hgt := oAdd_gt q0
                  have hle := oAdd_le hm hks
                  have eU := g1 _ hgt hle k hks
                  have uU := oRec2_le hR hgt hle hks
                  have hne := oBit hm hks q0
                  have ep : oP2 W (d + 1) l k = true := by
                    unfold oP2
                    rw [oP_t.mpr q0, ew]
                    rfl
                  have eg : oG2 W U (d + 1) l k = m + U (d + 1 ||| 1 <<< k) k := by
                    unfold oG2
                    rw [ew]
                    rfl
                  have es : oU s W U (d + 1) l (k + 1) = min (oU s W U (d + 1) l k) (m + U (d + 1 ||| 1 <<< k) k) := by
                    unfold oU
                    rw [if_neg hne, if_neg hne, oMin_t ep, eg]
                  refine zk_iload hX dX12_layToCome_42 rfl ?_
                  refine zk_aload_n hX dX12_layToCome_44 rfl ?_
                  refine zk_getI hX dX12_layToCome_45 flX12_368 k_166 z_166 ?_
                  refine zk_icmp_ge (tgt := 131) hX dX12_layToCome_48 (by decide) (fun c48 => ?_) (fun c48 => ?_)
                  · exact absurd c48 (by rw [hs2]; exact nI_ge (by omega) (by omega))
                  refine zk_aload_n hX dX12_layToCome_51 rfl ?_
                  refine zk_getR hX dX12_layToCome_52 flX12_105 k_166 z_166 (hw2 _ _ (by decide) |>.trans r_166_51) ?_
                  refine zk_bipush (v := 8) hX dX12_layToCome_55 (by decide) ?_
                  refine zk_iload_n hX dX12_layToCome_57 rfl ?_
                  refine zk_imul hX dX12_layToCome_58 ?_
                  refine zk_iload hX dX12_layToCome_59 rfl ?_
                  refine zk_iadd hX dX12_layToCome_61 ?_
                  refine zk_ialdE hX dX12_layToCome_62 (nI_addE (nI_mulE (nI_k 8 rfl) rfl) rfl) k_198 z_198 (by first | assumption | omega) rfl ?_
                  rw [eW]
                  refine zk_istore (lo' := [_, _, _, _, _, _, _, _]) hX dX12_layToCome_63 (Nat.le_of_ble_eq_true rfl) rfl rfl ?_
                  refine zk_iload_n hX dX12_layToCome_65 rfl ?_
                  refine zk_iload hX dX12_layToCome_66 rfl ?_
                  refine zk_S2i hX dX12_layToCome_68 kcX12_has mlX12_372 smX12_has rfl ch (Nat.le_of_ble_eq_true rfl) rfl ?_
                  refine zk_if_neB (tgt := 81) hX dX12_layToCome_71 (by decide) (fun c71 => ?_) (fun c71 => ?_)
                  · exact absurd c71 q
                  refine zk_iload hX dX12_layToCome_74 rfl ?_
                  refine zk_bipush (v := -9) hX dX12_layToCome_76 (by decide) ?_
                  refine zk_icmp_ne (tgt := 87) hX dX12_layToCome_78 (by decide) (fun c78 => ?_) (fun c78 => ?_)
                  rotate_left
                  · exact absurd c78 (nI_n9 (by omega))
                  refine zk_iload hX dX12_layToCome_87 rfl ?_
                  refine zk_aload_n hX dX12_layToCome_89 rfl ?_
                  refine zk_getR hX dX12_layToCome_90 flX12_108 k_166 z_166 (hw2 _ _ (by decide) |>.trans r_166_52) ?_
                  refine zk_bipush (v := 8) hX dX12_layToCome_93 (by decide) ?_
                  refine zk_iload_n hX dX12_layToCome_95 rfl ?_
                  refine zk_iconst (v := 1) hX dX12_layToCome_96 (by decide) ?_
                  rw [show (1 : Int32) = nI 1 from rfl]
                  refine zk_iload hX dX12_layToCome_97 rfl ?_
                  refine zk_ishl hX dX12_layToCome_99 ?_
                  rw [nI_shl _ (by omega)]
                  refine zk_ior hX dX12_layToCome_100 ?_
                  rw [nI_or]
                  refine zk_imul hX dX12_layToCome_101 ?_
                  refine zk_iload hX dX12_layToCome_102 rfl ?_
                  refine zk_iadd hX dX12_layToCome_104 ?_
                  refine zk_ialdE hX dX12_layToCome_105 (nI_addE (nI_mulE (nI_k 8 rfl) rfl) rfl) k_199 z_199 (by first | assumption | omega) rfl ?_
                  rw [eU]
                  refine zk_iadd hX dX12_layToCome_106 ?_
                  rw [show zoe (some m) = nI m from rfl, nI_add]
                  refine zk_istore (lo' := [_, _, _, _, _, _, _, _]) hX dX12_layToCome_107 (Nat.le_of_ble_eq_true rfl) rfl rfl ?_
                  refine zk_iload hX dX12_layToCome_109 rfl ?_
                  refine zk_iload hX dX12_layToCome_111 rfl ?_
                  refine zk_icmp_ge (tgt := 121) hX dX12_layToCome_113 (by decide) (fun c113 => ?_) (fun c113 => ?_)
                  · refine zk_iload hX dX12_layToCome_121 rfl ?_
                    refine zk_istore (lo' := [_, _, _, _, _, _, _, _]) hX dX12_layToCome_123 (Nat.le_of_ble_eq_true rfl) rfl rfl ?_
                    refine zk_iinc (lo' := [_, _, _, _, _, _, _, _]) hX dX12_layToCome_125 rfl (by first | exact zinc _ | exact rfl) (Nat.le_of_ble_eq_true rfl) rfl rfl ?_
                    refine zk_goto (tgt := 42) hX dX12_layToCome_128 (by decide) ?_
                    first
                    | (have c := nI_leD c113 (by omega) (by omega)
                       rw [es, Nat.min_eq_left (by omega)] at h9
                       exact h9 _ _)
                    | (have c := nI_ltD c113 (by omega) (by omega)
                       rw [es, Nat.min_eq_right (by omega)] at h9
                       exact h9 _ _)
                  · refine zk_iload hX dX12_layToCome_116 rfl ?_
                    refine zk_goto (tgt := 123) hX dX12_layToCome_118 (by decide) ?_
                    refine zk_istore (lo' := [_, _, _, _, _, _, _, _]) hX dX12_layToCome_123 (Nat.le_of_ble_eq_true rfl) rfl rfl ?_
                    refine zk_iinc (lo' := [_, _, _, _, _, _, _, _]) hX dX12_layToCome_125 rfl (by first | exact zinc _ | exact rfl) (Nat.le_of_ble_eq_true rfl) rfl rfl ?_
                    refine zk_goto (tgt := 42) hX dX12_layToCome_128 (by decide) ?_
                    first
                    | (have c := nI_leD c113 (by omega) (by omega)
                       rw [es, Nat.min_eq_left (by omega)] at h9
                       exact h9 _ _)
                    | (have c := nI_ltD c113 (by omega) (by omega)
                       rw [es, Nat.min_eq_right (by omega)] at h9
                       exact h9 _ _)
          by_cases e : d + 1 = oAll s
          · have e0 : oU s W U (d + 1) l 0 = 0 := if_pos e
            have h0 := fun a6 a7 => inn s 0 a6 a7 (by omega)
            rw [e0] at h0
            refine zk_iload_n hX dX12_layToCome_17 rfl ?_
            refine zk_aload_n hX dX12_layToCome_18 rfl ?_
            refine zk_getI hX dX12_layToCome_19 flX12_368 k_166 z_166 ?_
            refine zk_icmp_ge (tgt := 150) hX dX12_layToCome_22 (by decide) (fun c22 => ?_) (fun c22 => ?_)
            · exact absurd c22 (by rw [hs2]; exact nI_ge (by omega) (by omega))
            refine zk_iload_n hX dX12_layToCome_25 rfl ?_
            refine zk_iload_n hX dX12_layToCome_26 rfl ?_
            refine zk_icmp_ne (tgt := 34) hX dX12_layToCome_27 (by decide) (fun c27 => ?_) (fun c27 => ?_)
            · exact absurd c27 (fun z => z (by rw [e]))
            refine zk_iconst (v := 0) hX dX12_layToCome_30 (by decide) ?_
            refine zk_goto (tgt := 37) hX dX12_layToCome_31 (by decide) ?_
            refine zk_istore (lo' := [_, _, _, _, _, _, _, _]) hX dX12_layToCome_37 (Nat.le_of_ble_eq_true rfl) rfl rfl ?_
            refine zk_iconst (v := 0) hX dX12_layToCome_39 (by decide) ?_
            refine zk_istore (lo' := [_, _, _, _, _, _, _, _]) hX dX12_layToCome_40 (Nat.le_of_ble_eq_true rfl) rfl rfl ?_
            exact h0 _ _
          · have e0 : oU s W U (d + 1) l 0 = 1000000 := if_neg e
            have h0 := fun a6 a7 => inn s 0 a6 a7 (by omega)
            rw [e0] at h0
            refine zk_iload_n hX dX12_layToCome_17 rfl ?_
            refine zk_aload_n hX dX12_layToCome_18 rfl ?_
            refine zk_getI hX dX12_layToCome_19 flX12_368 k_166 z_166 ?_
            refine zk_icmp_ge (tgt := 150) hX dX12_layToCome_22 (by decide) (fun c22 => ?_) (fun c22 => ?_)
            · exact absurd c22 (by rw [hs2]; exact nI_ge (by omega) (by omega))
            refine zk_iload_n hX dX12_layToCome_25 rfl ?_
            refine zk_iload_n hX dX12_layToCome_26 rfl ?_
            refine zk_icmp_ne (tgt := 34) hX dX12_layToCome_27 (by decide) (fun c27 => ?_) (fun c27 => ?_)
            rotate_left
            · exact absurd (nI_inj (by omega) (by omega) c27) e
            refine zk_ldcw hX dX12_layToCome_34 cnX12_371 ?_
            rw [eL]
            refine zk_istore (lo' := [_, _, _, _, _, _, _, _]) hX dX12_layToCome_37 (Nat.le_of_ble_eq_true rfl) rfl rfl ?_
            refine zk_iconst (v := 0) hX dX12_layToCome_39 (by decide) ?_
            refine zk_istore (lo' := [_, _, _, _, _, _, _, _]) hX dX12_layToCome_40 (Nat.le_of_ble_eq_true rfl) rfl rfl ?_
            exact h0 _ _
      refine zk_iload_n hX dX12_layToCome_11 rfl ?_
      refine zk_if_le (tgt := 156) hX dX12_layToCome_12 (by decide) (fun c12 => ?_) (fun c12 => ?_)
      · exact absurd (nI_leD (y := 0) c12 (by omega) (by omega)) (by omega)
      refine zk_iconst (v := 0) hX dX12_layToCome_15 (by decide) ?_
      refine zk_istore_n (lo' := [_, _, _, _, _, _, _, _]) hX dX12_layToCome_16 (Nat.le_of_ble_eq_true rfl) rfl rfl ?_
      exact mid s 0 w1 _ _ _ _ (by omega) zFr_r (fun d' h1 h2 l hl => hC d' h1 h2 l hl) (fun j hj => absurd hj (by omega))
  refine zk_iconst (v := 1) hX dX12_layToCome_0 (by decide) ?_
  refine zk_aload_n hX dX12_layToCome_1 rfl ?_
  refine zk_getI hX dX12_layToCome_2 flX12_368 k_166 z_166 ?_
  rw [hs, show (1 : Int32) = nI 1 from rfl]
  refine zk_ishl hX dX12_layToCome_5 ?_
  rw [nI_shl _ (by omega)]
  refine zk_iconst (v := 1) hX dX12_layToCome_6 (by decide) ?_
  refine zk_isub hX dX12_layToCome_7 ?_
  rw [show (1 : Int32) = nI 1 from rfl, nI_sub (by rw [Nat.one_shiftLeft]; exact Nat.two_pow_pos _)]
  refine zk_istore_n (lo' := [_, _, _, _, _, _, _, _]) hX dX12_layToCome_8 (Nat.le_of_ble_eq_true rfl) rfl rfl ?_
  refine zk_iload_n hX dX12_layToCome_9 rfl ?_
  refine zk_istore_n (lo' := [_, _, _, _, _, _, _, _]) hX dX12_layToCome_10 (Nat.le_of_ble_eq_true rfl) rfl rfl ?_
  exact outer (oAll s) w (fun _ _ => 0) _ _ _ _ _ (Nat.le_refl _) zFr_r (fun d h1 h2 => absurd h2 (by omega)) (fun d h1 h2 => absurd h2 (by omega))
