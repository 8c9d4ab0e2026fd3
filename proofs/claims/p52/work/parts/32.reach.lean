theorem zb_and2 {P R : Nat → Bool} {n : Nat} : zbits P n &&& zbits R n = zbits (fun i => P i && R i) n := by
  refine zbits_of (Nat.lt_of_le_of_lt Nat.and_le_left (zbits_lt P n)) (fun i hi => ?_)
  rw [Nat.testBit_and, zbits_bit, zbits_bit]
  simp [hi]
def zint (S T : zS) : zS := fun c => S c && T c
theorem zT_and (S T : zS) : zT S &&& zT T = zT (zint S T) := by unfold zT; rw [lN_and, zb_and2]; rfl
theorem zLo_and (S T : zS) : zLo S &&& zLo T = zLo (zint S T) := by unfold zLo; rw [lN_and, zb_and2]; rfl
theorem zT_0 {S T : zS} : (zT S &&& zT T = 0 ∧ zLo S &&& zLo T = 0) ↔ ∀ c, c < 120 → ¬ (S c = true ∧ T c = true) := by
  have e : (zT (zint S T) = 0 ∧ zLo (zint S T) = 0) ↔ (zT (zint S T) = zT zno ∧ zLo (zint S T) = zLo zno) := by rw [zT_no, zLo_no]
  rw [zT_and, zLo_and, e, zTL_eq]
  unfold zint zno
  constructor
  · intro h c hc q
    have := h c hc
    rw [q.1, q.2] at this
    cases this
  · intro h c hc
    have := h c hc
    cases hS : S c <;> cases hT : T c <;> simp_all
theorem zwr_app {L M : List zPt} : 0 < zwrL zno (L ++ M) ↔ (0 < zwrL zno L ∨ 0 < zwrL zno M ∨ ¬ (zT (zdkL zno L) &&& zT (zdkL zno M) = 0 ∧ zLo (zdkL zno L) &&& zLo (zdkL zno M) = 0)) := by
  rw [zwrL_app, zT_0]
  have h := zwrL_on L M
  by_cases q : zwrL (zdkL zno L) M = 0
  · have h1 := h.mp q
    rw [q]
    constructor
    · intro z
      exact Or.inl (by omega)
    · rintro (z | z | z)
      · omega
      · omega
      · exact absurd (fun c _ => h1.2 c) z
  · constructor
    · intro _
      by_cases q2 : zwrL zno M = 0
      · refine Or.inr (Or.inr (fun z => q (h.mpr ⟨q2, fun c hc => z c (zdkL_lt hc.1) hc⟩)))
      · exact Or.inr (Or.inl (by omega))
    · intro _
      omega
theorem ldv_neg {W A : Nat} (hA : A ≤ 18) : ldv W A < 0 ↔ 0 < W := by
  unfold ldv
  by_cases h : 0 < W
  · rw [if_pos h]
    exact ⟨fun _ => h, fun _ => by decide⟩
  · rw [if_neg h]
    exact ⟨fun q => absurd q (nI_pos (by omega)), fun q => absurd q h⟩
theorem zi8 : ∀ a, a ≤ 18 → (nI a).toInt8.toInt32 = nI a := by
  intro a ha
  exact (by decide +kernel : ∀ a, a < 19 → (nI a).toInt8.toInt32 = nI a) a (by omega)
theorem znarB {a : Nat} (ha : a ≤ 18) : narrow .byte (.int (nI a)) = .int (nI a) := by
  show Value.int (nI a).toInt8.toInt32 = _
  rw [zi8 a ha]
theorem ldv_nar {W A : Nat} (hA : A ≤ 18) : vp_nar .byte (ldv W A) = ldv W A := by
  rw [vp_nar_byte]
  unfold ldv
  by_cases h : 0 < W
  · rw [if_pos h]
    decide
  · rw [if_neg h]
    exact zi8 A hA
theorem s_X6_joinedLoad {G : zG} {w : zW} {i x W1 A1 W2 A2 W3 : Nat} {S T : zS} (hw : zWf w) (hi : i < 4096) (hx : x < 750) (hA1 : A1 ≤ 12) (hA2 : A2 ≤ 6) (h1 : w.1 140 x = ldv W2 A2) (hS : w.2.1 135 i = zT S ∧ w.2.1 136 i = zLo S) (hT : w.2.1 141 x = zT T ∧ w.2.1 142 x = zLo T)
    (h3 : 0 < W3 ↔ (0 < W1 ∨ 0 < W2 ∨ ¬ (zT S &&& zT T = 0 ∧ zLo S &&& zLo T = 0))) : zEi G mX6_joinedLoad [.ref 131, .int (ldv W1 A1), .int (nI i), .int (nI x)] w (ldv W3 (A1 + A2)) w := by
  have g1 := ldv_neg (W := W1) (A := A1) (by omega)
  have g2 := ldv_neg (W := W2) (A := A2) (by omega)
  refine zC_of (lo := [_, _, _, _]) kcX6_joinedLoad (Nat.le_of_ble_eq_true rfl) rfl (fun X hX hE => ?_)
  refine zk_iload_n hX dX6_joinedLoad_0 rfl ?_
  refine zk_if_lt (tgt := 13) hX dX6_joinedLoad_1 (by decide) (fun c1 => ?_) (fun c1 => ?_)
  · refine zk_iconst (v := -1) hX dX6_joinedLoad_13 (by decide) ?_
    refine zk_zret hX hE rfl ⟨rfl, rfl⟩ dX6_joinedLoad_14 rfl ⟨_, rfl, ?_⟩
    refine ⟨?_, rfl⟩
    unfold ldv
    rw [if_pos (h3.mpr (by first | exact Or.inl (g1.mp c1) | exact Or.inr (Or.inl (g2.mp (by grind)))))]
  · refine zk_aload_n hX dX6_joinedLoad_4 rfl ?_
    refine zk_getR hX dX6_joinedLoad_5 flX6_42 k_131 z_131 (hw _ _ (by decide) |>.trans r_131_10) ?_
    refine zk_iload_n hX dX6_joinedLoad_8 rfl ?_
    refine zk_baldE hX dX6_joinedLoad_9 rfl k_140 z_140 (by first | assumption | omega) rfl ?_
    rw [h1]
    refine zk_if_ge (tgt := 15) hX dX6_joinedLoad_10 (by decide) (fun c10 => ?_) (fun c10 => ?_)
    · refine zk_aload_n hX dX6_joinedLoad_15 rfl ?_
      refine zk_getR hX dX6_joinedLoad_16 flX6_26 k_131 z_131 (hw _ _ (by decide) |>.trans r_131_5) ?_
      refine zk_iload_n hX dX6_joinedLoad_19 rfl ?_
      refine zk_laldE hX dX6_joinedLoad_20 rfl k_135 z_135 (by first | assumption | omega) rfl ?_
      rw [hS.1]
      refine zk_aload_n hX dX6_joinedLoad_21 rfl ?_
      refine zk_getR hX dX6_joinedLoad_22 flX6_45 k_131 z_131 (hw _ _ (by decide) |>.trans r_131_11) ?_
      refine zk_iload_n hX dX6_joinedLoad_25 rfl ?_
      refine zk_laldE hX dX6_joinedLoad_26 rfl k_141 z_141 (by first | assumption | omega) rfl ?_
      rw [hT.1]
      refine zk_land hX dX6_joinedLoad_27 ?_
      refine zk_lconst (v := 0) hX dX6_joinedLoad_28 rfl ?_
      refine zk_lcmp hX dX6_joinedLoad_29 ?_
      refine zk_if_ne (tgt := 51) hX dX6_joinedLoad_30 (by decide) (fun c30 => ?_) (fun c30 => ?_)
      · refine zk_iconst (v := -1) hX dX6_joinedLoad_51 (by decide) ?_
        refine zk_zret hX hE rfl ⟨rfl, rfl⟩ dX6_joinedLoad_52 rfl ⟨_, rfl, ?_⟩
        refine ⟨?_, rfl⟩
        unfold ldv
        rw [if_pos (h3.mpr (Or.inr (Or.inr (fun q => by
          first
            | exact c30 ((lg_cmp_eq _ _).mpr q.1)
            | exact c48 ((lg_cmp_eq _ _).mpr q.2)))))]
      · refine zk_aload_n hX dX6_joinedLoad_33 rfl ?_
        refine zk_getR hX dX6_joinedLoad_34 flX6_30 k_131 z_131 (hw _ _ (by decide) |>.trans r_131_6) ?_
        refine zk_iload_n hX dX6_joinedLoad_37 rfl ?_
        refine zk_laldE hX dX6_joinedLoad_38 rfl k_136 z_136 (by first | assumption | omega) rfl ?_
        rw [hS.2]
        refine zk_aload_n hX dX6_joinedLoad_39 rfl ?_
        refine zk_getR hX dX6_joinedLoad_40 flX6_48 k_131 z_131 (hw _ _ (by decide) |>.trans r_131_12) ?_
        refine zk_iload_n hX dX6_joinedLoad_43 rfl ?_
        refine zk_laldE hX dX6_joinedLoad_44 rfl k_142 z_142 (by first | assumption | omega) rfl ?_
        rw [hT.2]
        refine zk_land hX dX6_joinedLoad_45 ?_
        refine zk_lconst (v := 0) hX dX6_joinedLoad_46 rfl ?_
        refine zk_lcmp hX dX6_joinedLoad_47 ?_
        refine zk_if_eq (tgt := 53) hX dX6_joinedLoad_48 (by decide) (fun c48 => ?_) (fun c48 => ?_)
        · refine zk_iload_n hX dX6_joinedLoad_53 rfl ?_
          refine zk_aload_n hX dX6_joinedLoad_54 rfl ?_
          refine zk_getR hX dX6_joinedLoad_55 flX6_42 k_131 z_131 (hw _ _ (by decide) |>.trans r_131_10) ?_
          refine zk_iload_n hX dX6_joinedLoad_58 rfl ?_
          refine zk_baldE hX dX6_joinedLoad_59 rfl k_140 z_140 (by first | assumption | omega) rfl ?_
          rw [h1]
          refine zk_iadd hX dX6_joinedLoad_60 ?_
          rw [show ldv W1 A1 = nI A1 from if_neg (fun q => c1 (g1.mpr q)), show ldv W2 A2 = nI A2 from if_neg (fun q => by have := g2.mpr q; grind), nI_add]
          refine zk_i2b hX dX6_joinedLoad_61 ?_
          rw [zi8 _ (by omega)]
          refine zk_zret hX hE rfl ⟨rfl, rfl⟩ dX6_joinedLoad_62 (znarB (by omega)) ⟨_, rfl, ?_⟩
          refine ⟨?_, rfl⟩
          unfold ldv
          rw [if_neg (fun q => by
            rcases h3.mp q with z | z | z
            · exact c1 (g1.mpr z)
            · have := g2.mpr z
              grind
            · refine z ⟨(lg_cmp_eq _ _).mp ?_, (lg_cmp_eq _ _).mp ?_⟩
              · first | exact c30 | exact Decidable.not_not.mp c30
              · first | exact c48 | exact Decidable.not_not.mp c48)]
        · refine zk_iconst (v := -1) hX dX6_joinedLoad_51 (by decide) ?_
          refine zk_zret hX hE rfl ⟨rfl, rfl⟩ dX6_joinedLoad_52 rfl ⟨_, rfl, ?_⟩
          refine ⟨?_, rfl⟩
          unfold ldv
          rw [if_pos (h3.mpr (Or.inr (Or.inr (fun q => by
            first
              | exact c30 ((lg_cmp_eq _ _).mpr q.1)
              | exact c48 ((lg_cmp_eq _ _).mpr q.2)))))]
    · refine zk_iconst (v := -1) hX dX6_joinedLoad_13 (by decide) ?_
      refine zk_zret hX hE rfl ⟨rfl, rfl⟩ dX6_joinedLoad_14 rfl ⟨_, rfl, ?_⟩
      refine ⟨?_, rfl⟩
      unfold ldv
      rw [if_pos (h3.mpr (by first | exact Or.inl (g1.mp c1) | exact Or.inr (Or.inl (g2.mp (by grind)))))]
theorem s_X6_joinLoads {G : zG} {w : zW} {n f t : Nat} {Wr Ar Wo Ao : Nat → Nat} {Wn : Nat → Nat → Nat} {Sr So : Nat → zS} (hw : zWf w) (hf : f < 6) (ht : 0 < t) (ht1 : t ≤ 125) (hn : n * t ≤ 4096) (hn1 : n ≤ 4096) (h0 : w.1 139 f = nI t)
    (h1 : ∀ i, i < n → w.1 134 i = ldv (Wr i) (Ar i) ∧ Ar i ≤ 12 ∧ w.2.1 135 i = zT (Sr i) ∧ w.2.1 136 i = zLo (Sr i)) (h2 : ∀ c, c < t → w.1 140 (f * 125 + c) = ldv (Wo c) (Ao c) ∧ Ao c ≤ 6 ∧ w.2.1 141 (f * 125 + c) = zT (So c) ∧ w.2.1 142 (f * 125 + c) = zLo (So c))
    (h3 : ∀ i c, i < n → c < t → (0 < Wn i c ↔ (0 < Wr i ∨ 0 < Wo c ∨ ¬ (zT (Sr i) &&& zT (So c) = 0 ∧ zLo (Sr i) &&& zLo (So c) = 0)))) :
    zCv G mX6_joinLoads [.ref 131, .int (nI n), .int (nI f)] w (fun w' => zFr [134] [] [] w w' ∧ ∀ i c, i < n → c < t → w'.1 134 (i * t + c) = ldv (Wn i c) (Ar i + Ao c)) := by
  refine zC_of (lo := [_, _, _, _, _, _, _]) kcX6_joinLoads (Nat.le_of_ble_eq_true rfl) rfl (fun X hX hE => ?_)
  have loop : ∀ i w1 (a b : Value), i ≤ n → zFr [134] [] [] w w1 → (∀ k, k < i → w1.1 134 k = w.1 134 k) → (∀ k c, i ≤ k → k < n → c < t → w1.1 134 (k * t + c) = ldv (Wn k c) (Ar k + Ao c)) → zk0 G X mX6_joinLoads 22 [.ref 131, .int (nI n), .int (nI f), .int (nI t), .int (nI i - 1), a, b] [] w1 := by
    intro i
    induction i with
    | zero =>
      intro w1 a b _ hF g1 g2
      refine zk_iload hX dX6_joinLoads_22 rfl ?_
      refine zk_if_lt (tgt := 85) hX dX6_joinLoads_24 (by decide) (fun c24 => ?_) (fun c24 => ?_)
      rotate_left
      · exact absurd (by decide) c24
      refine zk_vret hX hE rfl ⟨rfl, rfl⟩ dX6_joinLoads_85 ⟨rfl, ?_⟩
      exact ⟨hF, fun i c hi hc => g2 i c (by omega) hi hc⟩
    | succ i ih =>
      intro w1 a b hi hF g1 g2
      rw [show nI (i + 1) - 1 = nI i from nI_pred i]
      have hw1 := zFr_wf hF hw
      have hiN : i < 4096 := by omega
      have hi9 := h1 i (by omega)
      have inner : ∀ c w2, c ≤ t → zFr [134] [] [] w w2 → (∀ k, k < i → w2.1 134 k = w.1 134 k) → (∀ k c', ((i + 1 ≤ k ∧ k < n) ∨ (k = i ∧ c ≤ c')) → c' < t → w2.1 134 (k * t + c') = ldv (Wn k c') (Ar k + Ao c')) → zk0 G X mX6_joinLoads 41 [.ref 131, .int (nI n), .int (nI f), .int (nI t), .int (nI i), .int (ldv (Wr i) (Ar i)), .int (nI c - 1)] [] w2 := by
        intro c
        induction c with
        | zero =>
          intro w2 _ hF2 g1 g2
          refine zk_iload hX dX6_joinLoads_41 rfl ?_
          refine zk_if_lt (tgt := 79) hX dX6_joinLoads_43 (by decide) (fun c43 => ?_) (fun c43 => ?_)
          rotate_left
          · exact absurd (by decide) c43
          refine zk_iinc (lo' := [_, _, _, _, _, _, _]) hX dX6_joinLoads_79 rfl (by exact zdec1 _) (Nat.le_of_ble_eq_true rfl) rfl rfl ?_
          refine zk_goto (tgt := 22) hX dX6_joinLoads_82 (by decide) ?_
          exact ih w2 _ _ (by omega) hF2 g1 (fun k c' hk hkn hc' => g2 k c' (by omega) hc')
        | succ c ih2 =>
          intro w2 hc hF2 g1 g2
          rw [show nI (c + 1) - 1 = nI c from nI_pred c]
          have hw2 := zFr_wf hF2 hw
          have hc9 := h2 c (by omega)
          have hx := zidx (i := i) (n := n) (t := t) (c := c) (by omega) (by omega)
          have hx2 : i ≤ i * t := Nat.le_mul_of_pos_right _ ht
          have e0 : w2.1 140 = w.1 140 := hF2.2.1 140 (by decide) (by decide)
          have e2 : w2.2.1 = w.2.1 := by funext a; exact hF2.2.2.1 a (by simp)
          have cj := s_X6_joinedLoad (G := G) (w := w2) (i := i) (x := f * 125 + c) (W1 := Wr i) (A1 := Ar i) (W2 := Wo c) (A2 := Ao c) (W3 := Wn i c) (S := Sr i) (T := So c) hw2 hiN (by omega) hi9.2.1 hc9.2.1 (by rw [e0]; exact hc9.1) (by rw [e2]; exact hi9.2.2) (by rw [e2]; exact hc9.2.2) (h3 i c (by omega) (by omega))
          refine zk_iload hX dX6_joinLoads_41 rfl ?_
          refine zk_if_lt (tgt := 79) hX dX6_joinLoads_43 (by decide) (fun c43 => ?_) (fun c43 => ?_)
          · exact absurd c43 (nI_pos (by omega))
          refine zk_aload_n hX dX6_joinLoads_46 rfl ?_
          refine zk_getR hX dX6_joinLoads_47 flX6_22 k_131 z_131 (hw2 _ _ (by decide) |>.trans r_131_4) ?_
          refine zk_iload hX dX6_joinLoads_50 rfl ?_
          refine zk_iload_n hX dX6_joinLoads_52 rfl ?_
          refine zk_imul hX dX6_joinLoads_53 ?_
          refine zk_iload hX dX6_joinLoads_54 rfl ?_
          refine zk_iadd hX dX6_joinLoads_56 ?_
          refine zk_aload_n hX dX6_joinLoads_57 rfl ?_
          refine zk_iload hX dX6_joinLoads_58 rfl ?_
          refine zk_iload hX dX6_joinLoads_60 rfl ?_
          refine zk_iload_n hX dX6_joinLoads_62 rfl ?_
          refine zk_bipush (v := 125) hX dX6_joinLoads_63 (by decide) ?_
          refine zk_imul hX dX6_joinLoads_65 ?_
          refine zk_iload hX dX6_joinLoads_66 rfl ?_
          refine zk_iadd hX dX6_joinLoads_68 ?_
          rw [show (125 : Int32) = nI 125 from rfl, show nI f * nI 125 + nI c = nI (f * 125 + c) by rw [nI_mul, nI_add]]
          refine zk_V3i hX dX6_joinLoads_69 kcX6_joinedLoad mlX6_138 viX6_joinedLoad rfl k_131 z_131 cj (Nat.le_of_ble_eq_true rfl) rfl ?_
          refine zk_bastE hX dX6_joinLoads_72 (nI_addE (nI_mulE rfl rfl) rfl) k_134 z_134 (by first | assumption | omega) rfl ?_
          rw [ldv_nar (by omega)]
          refine zk_iinc (lo' := [_, _, _, _, _, _, _]) hX dX6_joinLoads_73 rfl (by exact zdec1 _) (Nat.le_of_ble_eq_true rfl) rfl rfl ?_
          refine zk_goto (tgt := 41) hX dX6_joinLoads_76 (by decide) ?_
          refine ih2 _ (by omega) (zFr_t hF2 (zFr_i (by decide) (by decide))) (fun k hk => ?_) (fun k c' hk hc' => ?_)
          · rw [zsi_1, if_neg (by omega)]
            exact g1 k hk
          · rw [zsi_1]
            by_cases q : k = i ∧ c' = c
            · rw [if_pos ⟨rfl, by rw [q.1, q.2]⟩, q.1, q.2]
            · have hne : ¬ (k * t + c' = i * t + c) := by
                rcases hk with hk | hk
                · have := zidx (i := i) (n := k) (t := t) (c := c) (by omega) (by omega)
                  omega
                · rw [hk.1]
                  omega
              rw [if_neg (fun z => hne z.2)]
              exact g2 k c' (by omega) hc'
      refine zk_iload hX dX6_joinLoads_22 rfl ?_
      refine zk_if_lt (tgt := 85) hX dX6_joinLoads_24 (by decide) (fun c24 => ?_) (fun c24 => ?_)
      · exact absurd c24 (nI_pos (by omega))
      refine zk_aload_n hX dX6_joinLoads_27 rfl ?_
      refine zk_getR hX dX6_joinLoads_28 flX6_22 k_131 z_131 (hw1 _ _ (by decide) |>.trans r_131_4) ?_
      refine zk_iload hX dX6_joinLoads_31 rfl ?_
      refine zk_baldE hX dX6_joinLoads_33 rfl k_134 z_134 (by first | assumption | omega) rfl ?_
      rw [g1 i (by omega), hi9.1]
      refine zk_istore (lo' := [_, _, _, _, _, _, _]) hX dX6_joinLoads_34 (Nat.le_of_ble_eq_true rfl) rfl rfl ?_
      refine zk_iload_n hX dX6_joinLoads_36 rfl ?_
      refine zk_iconst (v := 1) hX dX6_joinLoads_37 (by decide) ?_
      refine zk_isub hX dX6_joinLoads_38 ?_
      refine zk_istore (lo' := [_, _, _, _, _, _, _]) hX dX6_joinLoads_39 (Nat.le_of_ble_eq_true rfl) rfl rfl ?_
      exact inner t w1 (Nat.le_refl _) hF (fun k hk => g1 k (by omega)) (fun k c' hk hc' => g2 k c' (by omega) (by omega) hc')
  refine zk_aload_n hX dX6_joinLoads_0 rfl ?_
  refine zk_getR hX dX6_joinLoads_1 flX6_39 k_131 z_131 (hw _ _ (by decide) |>.trans r_131_9) ?_
  refine zk_iload_n hX dX6_joinLoads_4 rfl ?_
  refine zk_ialdE hX dX6_joinLoads_5 rfl k_139 z_139 (by first | assumption | omega) rfl ?_
  rw [h0]
  refine zk_istore_n (lo' := [_, _, _, _, _, _, _]) hX dX6_joinLoads_6 (Nat.le_of_ble_eq_true rfl) rfl rfl ?_
  refine zk_iload_n hX dX6_joinLoads_7 rfl ?_
  refine zk_iload_n hX dX6_joinLoads_8 rfl ?_
  refine zk_imul hX dX6_joinLoads_9 ?_
  rw [nI_mul]
  refine zk_sipush (v := 4096) hX dX6_joinLoads_10 (by decide) ?_
  refine zk_icmp_le (tgt := 17) hX dX6_joinLoads_13 (by decide) (fun c13 => ?_) (fun c13 => ?_)
  rotate_left
  · exact absurd (nI_le (b := 4096) hn (by decide)) c13
  refine zk_iload_n hX dX6_joinLoads_17 rfl ?_
  refine zk_iconst (v := 1) hX dX6_joinLoads_18 (by decide) ?_
  refine zk_isub hX dX6_joinLoads_19 ?_
  refine zk_istore (lo' := [_, _, _, _, _, _, _]) hX dX6_joinLoads_20 (Nat.le_of_ble_eq_true rfl) rfl rfl ?_
  exact loop n w _ _ (Nat.le_refl _) zFr_r (fun _ _ => rfl) (fun k c h1 h2 => absurd h1 (by omega))
/-- the rows of one finger's own turns -/
def cOwn1 (w : zW) (D : zD) (f : Nat) : Prop := w.1 139 f = nI (zown D f) ∧ ∀ n, n < zown D f → w.1 140 (f * 125 + n) = ldv (zwrL zno (oL D f n)) (oA D f n) ∧ w.2.1 141 (f * 125 + n) = zT (zdkL zno (oL D f n)) ∧ w.2.1 142 (f * 125 + n) = zLo (zdkL zno (oL D f n))
def cOwn (w : zW) (D : zD) : Prop := ∀ f, f < dF D → cOwn1 w D f
theorem cOwn_f {w w' : zW} {D : zD} {A B F : List Nat} (h : cOwn w D) (hF : zFr A B F w w') (hA : (!A.contains 139 && !A.contains 140 && !B.contains 141 && !B.contains 142) = true) : cOwn w' D := by
  simp only [Bool.and_eq_true, Bool.not_eq_true', ← Bool.not_eq_true, List.contains_iff_mem] at hA
  intro f hf
  unfold cOwn1
  rw [hF.2.1 139 hA.1.1.1 (by decide), hF.2.1 140 hA.1.1.2 (by decide), hF.2.2.1 141 hA.1.2, hF.2.2.1 142 hA.2]
  exact h f hf
theorem zCe146 : zCe 146 := ⟨by decide, by decide +kernel⟩
theorem zTc145 : zTc 145 := ⟨by decide, by decide +kernel⟩
theorem oL_c {D : zD} (hD : zDok D) {f n : Nat} (hf : f < dF D) {t : Nat → Int32} (h : ∀ i, i < dL D f → t (zoff D f + i) = zod D f n i) : zLq D t f (dL D f + 1) = oL D f n :=
  zLq_c (fun k hk => by
    rw [(hD.2.2.1 f hf).2.2.2, h k (by omega)]
    unfold zfvt
    rw [show zoff D f + k - zoff D f = k by omega])
theorem znarb {a : Nat} (ha : a ≤ 18) : vp_nar .byte (nI a) = nI a := by rw [vp_nar_byte, zi8 a ha]
theorem s_X6_learnFinger {G : zG} {w : zW} {D : zD} {f : Nat} (hw : zWf w) (hH : cHd w 26 D) (hD : zDok D) (hf : f < dF D) :
    zCv G mX6_learnFinger [.ref 131, .ref 26, .int (nI f)] w (fun w' => zFr [139, 140, 145] [141, 142, 146] [] w w' ∧ (∀ g, g ≠ f → w'.1 139 g = w.1 139 g) ∧ (∀ x, x < f * 125 ∨ f * 125 + 125 ≤ x → w'.1 140 x = w.1 140 x ∧ w'.2.1 141 x = w.2.1 141 x ∧ w'.2.1 142 x = w.2.1 142 x) ∧ cOwn1 w' D f) := by
  have h6 := hD.1.2.2
  have hF6 := hD.1.2.1
  have hF := hD.2.2.1 f hf
  have ho := zown_le hD hf
  have hop := zown_pos (D := D) (f := f)
  have hoff := zoff_le hD (f := f + 1) (by omega)
  rw [show zoff D (f + 1) = zoff D f + dL D f from rfl] at hoff
  have hHf := hH.2.2.1 f hf
  refine zC_of (lo := [_, _, _, _, _, _]) kcX6_learnFinger (Nat.le_of_ble_eq_true rfl) rfl (fun X hX hE => ?_)
  have loop2 : ∀ z n w1 (a : Int32) (b : Value), n + z = zown D f → zFr [139, 140, 145] [141, 142, 146] [] w w1 → (∀ g, g ≠ f → w1.1 139 g = w.1 139 g) → w1.1 139 f = nI (zown D f) → (∀ x, x < f * 125 ∨ f * 125 + 125 ≤ x → w1.1 140 x = w.1 140 x ∧ w1.2.1 141 x = w.2.1 141 x ∧ w1.2.1 142 x = w.2.1 142 x) →
      (∀ k, k < n → w1.1 140 (f * 125 + k) = ldv (zwrL zno (oL D f k)) (oA D f k) ∧ w1.2.1 141 (f * 125 + k) = zT (zdkL zno (oL D f k)) ∧ w1.2.1 142 (f * 125 + k) = zLo (zdkL zno (oL D f k))) → zk0 G X mX6_learnFinger 53 [.ref 131, .ref 26, .int (nI f), .int a, .int (nI n), b] [] w1 := by
    intro z
    induction z with
    | zero =>
      intro n w1 a b hn hFr g1 g2 g3 g4
      obtain rfl : n = zown D f := by omega
      have hw1 := zFr_wf hFr hw
      refine zk_iload hX dX6_learnFinger_53 rfl ?_
      refine zk_aload_n hX dX6_learnFinger_55 rfl ?_
      refine zk_getR hX dX6_learnFinger_56 flX6_39 k_131 z_131 (hw1 _ _ (by decide) |>.trans r_131_9) ?_
      refine zk_iload_n hX dX6_learnFinger_59 rfl ?_
      refine zk_ialdE hX dX6_learnFinger_60 rfl k_139 z_139 (by first | assumption | omega) rfl ?_
      rw [g2]
      refine zk_icmp_ge (tgt := 157) hX dX6_learnFinger_61 (by decide) (fun c61 => ?_) (fun c61 => ?_)
      rotate_left
      · exact absurd (nI_le (Nat.le_refl _) (by omega)) c61
      refine zk_vret hX hE rfl ⟨rfl, rfl⟩ dX6_learnFinger_157 ⟨rfl, ?_⟩
      exact ⟨hFr, g1, g3, g2, g4⟩
    | succ z ih =>
      intro n w1 a b hn hFr g1 g2 g3 g4
      have hw1 := zFr_wf hFr hw
      have hH1 : cHd w1 26 D := cHd_o hH (fun a h1 h2 => hFr.2.1 a (by simp; omega) (by omega))
      have oA6 := oA_le (n := n) hD hf
      have ol := zwrL_le (oL D f n) zno
      have oln : (oL D f n).length = dL D f + 1 := zLq_len _
      have fin : ∀ w3 a b, zFr [140, 145] [141, 142, 146] [] w1 w3 → (∀ x, x ≠ f * 125 + n → w3.1 140 x = w1.1 140 x ∧ w3.2.1 141 x = w1.2.1 141 x ∧ w3.2.1 142 x = w1.2.1 142 x) →
          (w3.1 140 (f * 125 + n) = ldv (zwrL zno (oL D f n)) (oA D f n) ∧ w3.2.1 141 (f * 125 + n) = zT (zdkL zno (oL D f n)) ∧ w3.2.1 142 (f * 125 + n) = zLo (zdkL zno (oL D f n))) → zk0 G X mX6_learnFinger 53 [.ref 131, .ref 26, .int (nI f), .int a, .int (nI (n + 1)), b] [] w3 := by
        intro w3 a b k1 k2 k3
        have e9 : w3.1 139 = w1.1 139 := k1.2.1 139 (by decide) (by decide)
        refine ih (n + 1) w3 a b (by omega) (zFr_t hFr (zFr_s k1 (by decide))) (fun g hg => by rw [e9]; exact g1 g hg) (by rw [e9]; exact g2) (fun x hx => ?_) (fun k hk => ?_)
        · have q1 := k2 x (by omega)
          have q2 := g3 x hx
          exact ⟨q1.1.trans q2.1, q1.2.1.trans q2.2.1, q1.2.2.trans q2.2.2⟩
        · rcases Nat.lt_succ_iff_lt_or_eq.mp hk with h | rfl
          · have q1 := k2 (f * 125 + k) (by omega)
            rw [q1.1, q1.2.1, q1.2.2]
            exact g4 k h
          · exact k3
      have mid : ∀ u, zFr [140, 145] [146] [] w1 u → (∀ x, x ≠ f * 125 + n → u.1 140 x = w1.1 140 x) → u.1 140 (f * 125 + n) = ldv (zwrL zno (oL D f n)) (oA D f n) → zHas u 146 (zdkL zno (oL D f n)) → zk0 G X mX6_learnFinger 123 [.ref 131, .ref 26, .int (nI f), .int a, .int (nI n), .int (nI (f * 125 + n))] [] u := by
        intro u k1 k2 k3 k4
        have hu := zFr_wf k1 hw1
        have e1 : u.2.1 141 = w1.2.1 141 := k1.2.2.1 141 (by decide)
        have e2 : u.2.1 142 = w1.2.1 142 := k1.2.2.1 142 (by decide)
        refine zk_aload_n hX dX6_learnFinger_123 rfl ?_
        refine zk_getR hX dX6_learnFinger_124 flX6_45 k_131 z_131 (hu _ _ (by decide) |>.trans r_131_11) ?_
        refine zk_iload hX dX6_learnFinger_127 rfl ?_
        refine zk_aload_n hX dX6_learnFinger_129 rfl ?_
        refine zk_getR hX dX6_learnFinger_130 flX6_63 k_131 z_131 (hu _ _ (by decide) |>.trans r_131_16) ?_
        refine zk_getL hX dX6_learnFinger_133 flX6_112 k_146 z_146 ?_
        rw [k4.1]
        refine zk_lastE hX dX6_learnFinger_136 rfl k_141 z_141 (by first | assumption | omega) rfl ?_
        refine zk_aload_n hX dX6_learnFinger_137 rfl ?_
        refine zk_getR hX dX6_learnFinger_138 flX6_48 k_131 z_131 ((zWf_l hu) _ _ (by decide) |>.trans r_131_12) ?_
        refine zk_iload hX dX6_learnFinger_141 rfl ?_
        refine zk_aload_n hX dX6_learnFinger_143 rfl ?_
        refine zk_getR hX dX6_learnFinger_144 flX6_63 k_131 z_131 ((zWf_l hu) _ _ (by decide) |>.trans r_131_16) ?_
        refine zk_getL hX dX6_learnFinger_147 flX6_115 k_146 z_146 ?_
        rw [zsl_o (by omega), k4.2]
        refine zk_lastE hX dX6_learnFinger_150 rfl k_142 z_142 (by first | assumption | omega) rfl ?_
        refine zk_iinc (lo' := [_, _, _, _, _, _]) hX dX6_learnFinger_151 rfl (by first | exact zinc _ | exact rfl) (Nat.le_of_ble_eq_true rfl) rfl rfl ?_
        refine zk_goto (tgt := 53) hX dX6_learnFinger_154 (by decide) ?_
        refine fin _ _ _ (zFr_t (zFr_t (zFr_s k1 (by decide)) (zFr_l (by decide))) (zFr_l (by decide))) (fun x hx => ⟨k2 x hx, ?_, ?_⟩) ⟨k3, ?_, ?_⟩
        · rw [zsl_o (by omega), zsl_2, if_neg (fun z => hx z.2), e1]
        · rw [zsl_2, if_neg (fun z => hx z.2), zsl_o (by omega), e2]
        · rw [zsl_o (by omega), zsl_2, if_pos ⟨rfl, rfl⟩]
        · rw [zsl_2, if_pos ⟨rfl, rfl⟩]
      refine zk_iload hX dX6_learnFinger_53 rfl ?_
      refine zk_aload_n hX dX6_learnFinger_55 rfl ?_
      refine zk_getR hX dX6_learnFinger_56 flX6_39 k_131 z_131 (hw1 _ _ (by decide) |>.trans r_131_9) ?_
      refine zk_iload_n hX dX6_learnFinger_59 rfl ?_
      refine zk_ialdE hX dX6_learnFinger_60 rfl k_139 z_139 (by first | assumption | omega) rfl ?_
      rw [g2]
      refine zk_icmp_ge (tgt := 157) hX dX6_learnFinger_61 (by decide) (fun c61 => ?_) (fun c61 => ?_)
      · exact absurd c61 (nI_ge (by omega) (by omega))
      refine zk_iload_n hX dX6_learnFinger_64 rfl ?_
      refine zk_bipush (v := 125) hX dX6_learnFinger_65 (by decide) ?_
      refine zk_imul hX dX6_learnFinger_67 ?_
      refine zk_iload hX dX6_learnFinger_68 rfl ?_
      refine zk_iadd hX dX6_learnFinger_70 ?_
      rw [show (125 : Int32) = nI 125 from rfl, nI_mul, nI_add]
      refine zk_istore (lo' := [_, _, _, _, _, _]) hX dX6_learnFinger_71 (Nat.le_of_ble_eq_true rfl) rfl rfl ?_
      refine zk_aload_n hX dX6_learnFinger_73 rfl ?_
      refine zk_getR hX dX6_learnFinger_74 flX6_42 k_131 z_131 (hw1 _ _ (by decide) |>.trans r_131_10) ?_
      refine zk_iload hX dX6_learnFinger_77 rfl ?_
      refine zk_aload_n hX dX6_learnFinger_79 rfl ?_
      refine zk_iload_n hX dX6_learnFinger_80 rfl ?_
      refine zk_iload hX dX6_learnFinger_81 rfl ?_
      refine zk_aload_n hX dX6_learnFinger_83 rfl ?_
      refine zk_getR hX dX6_learnFinger_84 flX6_57 k_131 z_131 (hw1 _ _ (by decide) |>.trans r_131_15) ?_
      refine zk_V3ip hX dX6_learnFinger_87 kcX2_turnFinger mlX6_101 viX2_turnFinger rfl k_26 z_26 (s_X2_turnFinger hw1 hH1 hD hf (by omega)) (Nat.le_of_ble_eq_true rfl) rfl (fun r9 w2 q2 => ?_)
      obtain ⟨rfl, hq2, hq3⟩ := q2
      have hw2 := zFr_wf hq2 hw1
      rw [show zsm (fun i => zab (zod D f n i)) (dL D f) = oA D f n from rfl]
      refine zk_i2b hX dX6_learnFinger_90 ?_
      rw [zi8 _ (by omega)]
      refine zk_bastE hX dX6_learnFinger_91 rfl k_140 z_140 (by first | assumption | omega) rfl ?_
      rw [znarb (by omega)]
      refine zk_aload_n hX dX6_learnFinger_92 rfl ?_
      refine zk_getR hX dX6_learnFinger_93 flX6_63 k_131 z_131 ((zWf_i hw2) _ _ (by decide) |>.trans r_131_16) ?_
      refine zk_V0v hX dX6_learnFinger_96 kcX1_clear mlX6_105 viX1_clear rfl k_146 z_146 (s_X1_clear zCe146) (Nat.le_of_ble_eq_true rfl) rfl ?_
      have cf := s_X2_fingerCells (G := G) (w := zsetS (zsi w2 140 (f * 125 + n) (nI (oA D f n))) 146 zno) (k := 146) (tk := 145) (S := zno) (zWf_of hw2 rfl) (cHd_o hH1 (fun a h1 h2 => by rw [zsetS_1, zsi_o (by omega)]; exact hq2.2.1 a (by simp; omega) (by omega))) hD zCe146 zTc145 zsetS_has hf
      rw [oL_c hD hf (t := (zsetS (zsi w2 140 (f * 125 + n) (nI (oA D f n))) 146 zno).1 145) (fun i hi => by rw [zsetS_1, zsi_o (by omega)]; exact hq3 i hi)] at cf
      refine zk_aload_n hX dX6_learnFinger_99 rfl ?_
      refine zk_iload_n hX dX6_learnFinger_100 rfl ?_
      refine zk_aload_n hX dX6_learnFinger_101 rfl ?_
      refine zk_getR hX dX6_learnFinger_102 flX6_57 k_131 z_131 ((zWf_of hw2 rfl (w' := zsetS (zsi w2 140 (f * 125 + n) (nI (oA D f n))) 146 zno)) _ _ (by decide) |>.trans r_131_15) ?_
      refine zk_aload_n hX dX6_learnFinger_105 rfl ?_
      refine zk_getR hX dX6_learnFinger_106 flX6_63 k_131 z_131 ((zWf_of hw2 rfl (w' := zsetS (zsi w2 140 (f * 125 + n) (nI (oA D f n))) 146 zno)) _ _ (by decide) |>.trans r_131_16) ?_
      refine zk_V3i hX dX6_learnFinger_109 kcX2_fingerCells mlX6_108 viX2_fingerCells rfl k_26 z_26 cf (Nat.le_of_ble_eq_true rfl) rfl ?_
      rw [zsetS_ss]
      refine zk_if_le (tgt := 123) hX dX6_learnFinger_112 (by decide) (fun c112 => ?_) (fun c112 => ?_)
      · first
        | exact mid _ (zFr_t (zFr_t (zFr_s (zFr_t (zFr_s hq2 (by decide)) (zFr_i (by decide) (by decide)) : zFr [140, 145] [146] [] _ _) (by decide)) (zFr_S (by decide))) (zFr_i (by decide) (by decide))) (fun x hx => by rw [zsi_1, if_neg (fun z => hx z.2), zsetS_1, zsi_1, if_neg (fun z => hx z.2), hq2.2.1 140 (by decide) (by decide)]) (by rw [zsi_1, if_pos ⟨rfl, rfl⟩]; unfold ldv; rw [if_pos (Nat.pos_of_ne_zero (fun q => c112 (by rw [q]; decide)))]; decide) (zHas_o zsetS_has rfl)
        | exact mid _ (zFr_t (zFr_s (zFr_t (zFr_s hq2 (by decide)) (zFr_i (by decide) (by decide)) : zFr [140, 145] [146] [] _ _) (by decide)) (zFr_S (by decide))) (fun x hx => by rw [zsetS_1, zsi_1, if_neg (fun z => hx z.2), hq2.2.1 140 (by decide) (by decide)]) (by rw [zsetS_1, zsi_1, if_pos ⟨rfl, rfl⟩]; unfold ldv; rw [if_neg (fun q => nI_nle q (by omega) c112)]) zsetS_has
      · refine zk_aload_n hX dX6_learnFinger_115 rfl ?_
        refine zk_getR hX dX6_learnFinger_116 flX6_42 k_131 z_131 ((zWf_of hw2 rfl (w' := zsetS (zsi w2 140 (f * 125 + n) (nI (oA D f n))) 146 (zdkL zno (oL D f n)))) _ _ (by decide) |>.trans r_131_10) ?_
        refine zk_iload hX dX6_learnFinger_119 rfl ?_
        refine zk_iconst (v := -1) hX dX6_learnFinger_121 (by decide) ?_
        refine zk_bastE hX dX6_learnFinger_122 rfl k_140 z_140 (by first | assumption | omega) rfl ?_
        first
        | exact mid _ (zFr_t (zFr_t (zFr_s (zFr_t (zFr_s hq2 (by decide)) (zFr_i (by decide) (by decide)) : zFr [140, 145] [146] [] _ _) (by decide)) (zFr_S (by decide))) (zFr_i (by decide) (by decide))) (fun x hx => by rw [zsi_1, if_neg (fun z => hx z.2), zsetS_1, zsi_1, if_neg (fun z => hx z.2), hq2.2.1 140 (by decide) (by decide)]) (by rw [zsi_1, if_pos ⟨rfl, rfl⟩]; unfold ldv; rw [if_pos (Nat.pos_of_ne_zero (fun q => c112 (by rw [q]; decide)))]; decide) (zHas_o zsetS_has rfl)
        | exact mid _ (zFr_t (zFr_s (zFr_t (zFr_s hq2 (by decide)) (zFr_i (by decide) (by decide)) : zFr [140, 145] [146] [] _ _) (by decide)) (zFr_S (by decide))) (fun x hx => by rw [zsetS_1, zsi_1, if_neg (fun z => hx z.2), hq2.2.1 140 (by decide) (by decide)]) (by rw [zsetS_1, zsi_1, if_pos ⟨rfl, rfl⟩]; unfold ldv; rw [if_neg (fun q => nI_nle q (by omega) c112)]) zsetS_has
  have loop1 : ∀ z i (b : Value), i + z = dL D f → zk0 G X mX6_learnFinger 5 [.ref 131, .ref 26, .int (nI f), .int (nI (zpr (zsD D f) i)), .int (nI i), b] [] w := by
    intro z
    induction z with
    | zero =>
      intro i b hi
      obtain rfl : i = dL D f := by omega
      have fw : ∀ b, zk0 G X mX6_learnFinger 53 [.ref 131, .ref 26, .int (nI f), .int (nI (zown D f)), .int (nI 0), b] [] (zsi w 139 f (nI (zown D f))) := fun b => loop2 (zown D f) 0 _ _ b (by omega) (zFr_i (by decide) (by decide)) (fun g hg => by rw [zsi_1, if_neg (fun z => hg z.2)]) (by rw [zsi_1, if_pos ⟨rfl, rfl⟩]) (fun x _ => ⟨rfl, rfl, rfl⟩) (fun k hk => absurd hk (by omega))
      refine zk_iload hX dX6_learnFinger_5 rfl ?_
      refine zk_aload_n hX dX6_learnFinger_7 rfl ?_
      refine zk_getR hX dX6_learnFinger_8 flX6_89 k_26 z_26 (hw _ _ (by decide) |>.trans r_26_7) ?_
      refine zk_iload_n hX dX6_learnFinger_11 rfl ?_
      refine zk_ialdE hX dX6_learnFinger_12 rfl k_31 z_31 (by first | assumption | omega) rfl ?_
      rw [hHf.2.2.2]
      refine zk_icmp_ge (tgt := 38) hX dX6_learnFinger_13 (by decide) (fun c13 => ?_) (fun c13 => ?_)
      rotate_left
      · exact absurd (nI_le (Nat.le_refl _) (by omega)) c13
      refine zk_aload_n hX dX6_learnFinger_38 rfl ?_
      refine zk_getR hX dX6_learnFinger_39 flX6_39 k_131 z_131 (hw _ _ (by decide) |>.trans r_131_9) ?_
      refine zk_iload_n hX dX6_learnFinger_42 rfl ?_
      refine zk_iload_n hX dX6_learnFinger_43 rfl ?_
      refine zk_bipush (v := 125) hX dX6_learnFinger_44 (by decide) ?_
      refine zk_mmin hX dX6_learnFinger_46 mlX6_95 ⟨rfl, rfl⟩ ?_
      rw [show (if (125 : Int32) < nI (zpr (zsD D f) (dL D f)) then 125 else nI (zpr (zsD D f) (dL D f))) = nI (zown D f) from if_neg (nI_nlt (a := 125) ho (by omega))]
      refine zk_iastE hX dX6_learnFinger_49 rfl k_139 z_139 (by first | assumption | omega) rfl ?_
      refine zk_iconst (v := 0) hX dX6_learnFinger_50 (by decide) ?_
      refine zk_istore (lo' := [_, _, _, _, _, _]) hX dX6_learnFinger_51 (Nat.le_of_ble_eq_true rfl) rfl rfl ?_
      exact fw _
    | succ z ih =>
      intro i b hi
      refine zk_iload hX dX6_learnFinger_5 rfl ?_
      refine zk_aload_n hX dX6_learnFinger_7 rfl ?_
      refine zk_getR hX dX6_learnFinger_8 flX6_89 k_26 z_26 (hw _ _ (by decide) |>.trans r_26_7) ?_
      refine zk_iload_n hX dX6_learnFinger_11 rfl ?_
      refine zk_ialdE hX dX6_learnFinger_12 rfl k_31 z_31 (by first | assumption | omega) rfl ?_
      rw [hHf.2.2.2]
      refine zk_icmp_ge (tgt := 38) hX dX6_learnFinger_13 (by decide) (fun c13 => ?_) (fun c13 => ?_)
      · exact absurd c13 (nI_ge (by omega) (by omega))
      refine zk_iload_n hX dX6_learnFinger_16 rfl ?_
      refine zk_aload_n hX dX6_learnFinger_17 rfl ?_
      refine zk_aload_n hX dX6_learnFinger_18 rfl ?_
      refine zk_getR hX dX6_learnFinger_19 flX6_92 k_26 z_26 (hw _ _ (by decide) |>.trans r_26_6) ?_
      refine zk_iload_n hX dX6_learnFinger_22 rfl ?_
      refine zk_ialdE hX dX6_learnFinger_23 rfl k_30 z_30 (by first | assumption | omega) rfl ?_
      rw [hHf.2.2.1, hF.2.2.2]
      refine zk_iload hX dX6_learnFinger_24 rfl ?_
      refine zk_iadd hX dX6_learnFinger_26 ?_
      rw [nI_add]
      refine zk_V1i hX dX6_learnFinger_27 kcX2_span mlX6_72 viX2_span rfl k_26 z_26 (s_X2_span hw hH hD (zoff_in hD hf (by omega))) (Nat.le_of_ble_eq_true rfl) rfl ?_
      refine zk_imul hX dX6_learnFinger_30 ?_
      rw [nI_mul]
      refine zk_istore_n (lo' := [_, _, _, _, _, _]) hX dX6_learnFinger_31 (Nat.le_of_ble_eq_true rfl) rfl rfl ?_
      refine zk_iinc (lo' := [_, _, _, _, _, _]) hX dX6_learnFinger_32 rfl (by first | exact zinc _ | exact rfl) (Nat.le_of_ble_eq_true rfl) rfl rfl ?_
      refine zk_goto (tgt := 5) hX dX6_learnFinger_35 (by decide) ?_
      exact ih (i + 1) b (by omega)
  refine zk_iconst (v := 1) hX dX6_learnFinger_0 (by decide) ?_
  refine zk_istore_n (lo' := [_, _, _, _, _, _]) hX dX6_learnFinger_1 (Nat.le_of_ble_eq_true rfl) rfl rfl ?_
  refine zk_iconst (v := 0) hX dX6_learnFinger_2 (by decide) ?_
  refine zk_istore (lo' := [_, _, _, _, _, _]) hX dX6_learnFinger_3 (Nat.le_of_ble_eq_true rfl) rfl rfl ?_
  exact loop1 (dL D f) 0 _ (by omega)

