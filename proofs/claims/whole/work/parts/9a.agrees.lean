/-! agrees -/
abbrev zCd : Type := (Nat → Int32) × (Nat → Nat) × (Nat → Int32)
def cCs (w : zW) (n nc : Nat) (K : zCd) : Prop := nc ≤ 24 ∧ w.1 114 2 = nI nc ∧ ∀ q, q < nc → w.1 124 q = K.1 q ∧ w.1 125 q = nI (K.2.1 q) ∧ w.1 126 q = K.2.2 q ∧ K.2.1 q < n
def mCs (w : zW) (n nc : Nat) (K : zCd) : Prop := nc ≤ 24 ∧ w.1 166 55 = nI nc ∧ ∀ q, q < nc → w.1 201 (3 * q) = K.1 q ∧ w.1 201 (3 * q + 1) = nI (K.2.1 q) ∧ w.1 201 (3 * q + 2) = K.2.2 q ∧ K.2.1 q < n
theorem qK_c {w : zW} {n nl c : Nat} (h : qK w n nl c) (h12 : n ≤ 12) : ∃ K : zCd, cCs w n c K ∧ mCs w n c K := by
  obtain ⟨_, h24, h1, h2, h3⟩ := h
  have g : ∀ q, q < c → w.1 201 (3 * q + 1) = nI (w.1 201 (3 * q + 1)).toNatClampNeg ∧ (w.1 201 (3 * q + 1)).toNatClampNeg < n := fun q hq => by
    obtain ⟨j, hj, e⟩ := rn (n := n) (by omega) (h3 q hq).2.2.1
    rw [e, nI_clamp (by omega)]
    exact ⟨rfl, hj⟩
  refine ⟨(fun q => w.1 201 (3 * q), fun q => (w.1 201 (3 * q + 1)).toNatClampNeg, fun q => w.1 201 (3 * q + 2)), ⟨h24, h1, fun q hq => ?_⟩, h24, h2, fun q hq => ?_⟩
  · exact ⟨(h3 q hq).1.1, (h3 q hq).1.2.1.trans (g q hq).1, (h3 q hq).1.2.2, (g q hq).2⟩
  · exact ⟨rfl, (g q hq).1, rfl, (g q hq).2⟩
theorem cCs_f {A B F : List Nat} {w w' : zW} {n nc : Nat} {K : zCd} (h : cCs w n nc K) (hF : zFr A B F w w') (h4 : ∀ i, i ≠ 9 → w'.1 114 i = w.1 114 i) (k : okc [124, 125, 126] A = true) : cCs w' n nc K := by
  unfold cCs
  rw [h4 2 (by decide), hF.2.1 124 (okc_m k (by simp)) (by decide), hF.2.1 125 (okc_m k (by simp)) (by decide), hF.2.1 126 (okc_m k (by simp)) (by decide)]
  exact h
theorem mCs_f {A B F : List Nat} {w w' : zW} {n nc : Nat} {K : zCd} (h : mCs w n nc K) (hF : zFr A B F w w') (k : (okc [201] A && okc [55] F) = true) : mCs w' n nc K := by
  rw [Bool.and_eq_true] at k
  unfold mCs
  rw [hF.2.1 201 (okc_m k.1 (by simp)) (by decide), hF.2.2.2 55 (okc_m k.2 (by simp))]
  exact h
def zca (K : zCd) (l c : Nat) : Bool := decide (K.1 c = nI l)
/-- call c is of looker l and what weights name -/
def zag (b : zBd) (Zf : Nat → zS) (mo : Nat → Bool) (K : zCd) (l e a d c : Nat) : Bool := zca K l c && decide (zoe (zgs b (Zf (K.2.1 c)) (mo (K.2.1 c)) e a d) = K.2.2 c)
theorem zag_n {b : zBd} {Zf : Nat → zS} {mo : Nat → Bool} {K : zCd} {l e a d c : Nat} (h : ¬ K.1 c = nI l) : ¬ zag b Zf mo K l e a d c = true := by
  unfold zag zca
  simp [h]
theorem zag_t {b : zBd} {Zf : Nat → zS} {mo : Nat → Bool} {K : zCd} {l e a d c : Nat} (h : K.1 c = nI l) : zag b Zf mo K l e a d c = true ↔ zoe (zgs b (Zf (K.2.1 c)) (mo (K.2.1 c)) e a d) = K.2.2 c := by
  unfold zag zca
  simp [h]
theorem s_X11_agrees_bad {G : zG} {w : zW} (hw : zWf w) (l : Int32) (h : ¬ (0 ≤ l ∧ l < w.1 114 0)) : zEi G mX11_agrees [.ref 0, .int l] w (-1) w := by
  refine zC_of (lo := [_, _, _, _, _]) kcX11_agrees (Nat.le_of_ble_eq_true rfl) rfl (fun X hX hE => ?_)
  refine zk_aload_n hX dX11_agrees_0 rfl ?_
  refine zk_iload_n hX dX11_agrees_1 rfl ?_
  refine zk_V1i hX dX11_agrees_2 kcX11_isLooker mlX11_414 viX11_isLooker rfl k_0 z_0 (s_X11_isLooker hw _) (Nat.le_of_ble_eq_true rfl) rfl ?_
  refine zk_if_neB (tgt := 10) hX dX11_agrees_5 (by decide) (fun c5 => ?_) (fun c5 => ?_)
  · exact absurd c5 h
  refine zk_iconst (v := -1) hX dX11_agrees_8 (by decide) ?_
  refine zk_iret hX hE rfl ⟨rfl, rfl⟩ dX11_agrees_9 ⟨_, rfl, ?_⟩
  exact ⟨rfl, rfl⟩
theorem s_X11_agrees {G : zG} {w : zW} {b : zBd} {n nl nc l z u v e a d : Nat} {Zf : Nat → zS} {mo : Nat → Bool} {K : zCd} (hw : zWf w) (hn : n ≤ 12) (hn8 : nl ≤ 8) (hK : w.1 114 0 = nI nl) (hl : l < nl) (hC : cCs w n nc K) (hPs : cPs w n Zf mo z u v) (hB : cBs w b) (hL : zLm w 44 z u v) (ho : zlok z u v) (he : e ≤ 9) (ha : a ≤ 9) (hd : d ≤ 9) (hW : w.1 (116 + l) 0 = nI e ∧ w.1 (116 + l) 1 = nI a ∧ w.1 (116 + l) 2 = nI d) :
    zCi G mX11_agrees [.ref 0, .int (nI l)] w (fun r w' => r = nI (zcnt (zag b Zf mo K l e a d) nc) ∧ zFr [1, 114, 127, 128, 129] [163] [] w w' ∧ (∀ i, i ≠ 9 → w'.1 114 i = w.1 114 i) ∧ (∀ i, i ≠ 0 → w'.1 1 i = w.1 1 i) ∧ w'.1 1 0 = nI (zcnt (zca K l) nc)) := by
  have h24 := hC.1
  refine zC_of (lo := [_, _, _, _, _]) kcX11_agrees (Nat.le_of_ble_eq_true rfl) rfl (fun X hX hE => ?_)
  have loop : ∀ m i w1, i + m = nc → zFr [114, 127, 128, 129] [163] [] w w1 → (∀ i, i ≠ 9 → w1.1 114 i = w.1 114 i) → zk0 G X mX11_agrees 17 [.ref 0, .int (nI l), .int (nI (zcnt (zca K l) i)), .int (nI (zcnt (zag b Zf mo K l e a d) i)), .int (nI i)] [] w1 := by
    intro m
    induction m with
    | zero =>
      intro i w1 hi hF h4
      obtain rfl : i = nc := by omega
      have hw1 := zFr_wf hF hw
      have hC1 := cCs_f hC hF h4 (by decide)
      refine zk_iload hX dX11_agrees_17 rfl ?_
      refine zk_aload_n hX dX11_agrees_19 rfl ?_
      refine zk_getR hX dX11_agrees_20 flX11_76 k_0 z_0 (hw1 _ _ (by decide) |>.trans r_0_12) ?_
      refine zk_getI hX dX11_agrees_23 flX11_421 k_114 z_114 ?_
      rw [hC1.2.1]
      refine zk_icmp_ge (tgt := 86) hX dX11_agrees_26 (by decide) (fun c26 => ?_) (fun c26 => ?_)
      rotate_left
      · exact absurd (nI_le (Nat.le_refl _) (by omega)) c26
      refine zk_aload_n hX dX11_agrees_86 rfl ?_
      refine zk_getR hX dX11_agrees_87 flX11_12 k_0 z_0 (hw1 _ _ (by decide) |>.trans r_0_0) ?_
      refine zk_iload_n hX dX11_agrees_90 rfl ?_
      refine zk_V1i hX dX11_agrees_91 kcX9_tell mlX11_132 viX9_tell rfl k_1 z_1 (s_X9_tell _) (Nat.le_of_ble_eq_true rfl) rfl ?_
      refine zk_pop hX dX11_agrees_94 rfl ?_
      refine zk_iload_n hX dX11_agrees_95 rfl ?_
      refine zk_iret hX hE rfl ⟨rfl, rfl⟩ dX11_agrees_96 ⟨_, rfl, ?_⟩
      refine ⟨rfl, zFr_t (zFr_s hF (by decide)) (zFr_i (by decide) (by decide)), fun i hi => ?_, fun i hi => ?_, by rw [zsi_1, if_pos ⟨rfl, rfl⟩]⟩
      · rw [zsi_o (by decide)]
        exact h4 i hi
      · rw [zsi_1, if_neg (fun z => hi z.2), hF.2.1 1 (by decide) (by decide)]
    | succ m ih =>
      intro i w1 hi hF h4
      have hw1 := zFr_wf hF hw
      have hC1 := cCs_f hC hF h4 (by decide)
      obtain ⟨g1, g2, g3, g4⟩ := hC1.2.2 i (by omega)
      have h9 := fun w2 => ih (i + 1) w2 (by omega)
      have eW : w1.1 (116 + l) = w.1 (116 + l) := hF.2.1 _ (by simp; omega) (by omega)
      by_cases q : K.1 i = nI l
      · rw [zcnt_t (show zca K l i = true from decide_eq_true q), zcnt_s (P := zag b Zf mo K l e a d)] at h9
        refine zk_iload hX dX11_agrees_17 rfl ?_
        refine zk_aload_n hX dX11_agrees_19 rfl ?_
        refine zk_getR hX dX11_agrees_20 flX11_76 k_0 z_0 (hw1 _ _ (by decide) |>.trans r_0_12) ?_
        refine zk_getI hX dX11_agrees_23 flX11_421 k_114 z_114 ?_
        rw [hC1.2.1]
        refine zk_icmp_ge (tgt := 86) hX dX11_agrees_26 (by decide) (fun c26 => ?_) (fun c26 => ?_)
        · exact absurd c26 (nI_ge (by omega) (by omega))
        refine zk_aload_n hX dX11_agrees_29 rfl ?_
        refine zk_getR hX dX11_agrees_30 flX11_76 k_0 z_0 (hw1 _ _ (by decide) |>.trans r_0_12) ?_
        refine zk_getR hX dX11_agrees_33 flX11_433 k_114 z_114 (hw1 _ _ (by decide) |>.trans r_114_3) ?_
        refine zk_iload hX dX11_agrees_36 rfl ?_
        refine zk_ialdE hX dX11_agrees_38 rfl k_124 z_124 (by first | assumption | omega) rfl ?_
        rw [g1]
        refine zk_iload_n hX dX11_agrees_39 rfl ?_
        refine zk_icmp_eq (tgt := 46) hX dX11_agrees_40 (by decide) (fun c40 => ?_) (fun c40 => ?_)
        rotate_left
        · exact absurd q c40
        refine zk_iinc (lo' := [_, _, _, _, _]) hX dX11_agrees_46 rfl (by first | exact zinc _ | exact rfl) (Nat.le_of_ble_eq_true rfl) rfl rfl ?_
        refine zk_aload_n hX dX11_agrees_49 rfl ?_
        refine zk_iload_n hX dX11_agrees_50 rfl ?_
        refine zk_aload_n hX dX11_agrees_51 rfl ?_
        refine zk_getR hX dX11_agrees_52 flX11_76 k_0 z_0 (hw1 _ _ (by decide) |>.trans r_0_12) ?_
        refine zk_getR hX dX11_agrees_55 flX11_436 k_114 z_114 (hw1 _ _ (by decide) |>.trans r_114_4) ?_
        refine zk_iload hX dX11_agrees_58 rfl ?_
        refine zk_ialdE hX dX11_agrees_60 rfl k_125 z_125 (by first | assumption | omega) rfl ?_
        rw [g2]
        refine zk_V2ip hX dX11_agrees_61 kcX11_guessed mlX11_427 viX11_guessed rfl k_0 z_0 (s_X11_guessed hw1 hn g4 (by omega) (cPs_f hPs hn hF (by decide)) (cBs_f hB hF (by decide)) (by unfold zLm; rw [hF.2.1 44 (by decide) (by decide)]; exact hL) ho he ha hd (by rw [eW]; exact hW)) (Nat.le_of_ble_eq_true rfl) rfl (fun x w2 q2 => ?_)
        obtain ⟨rfl, k1, k2, k3⟩ := q2
        have hw2 := zFr_wf k1 hw1
        have k4 : w2.1 126 i = K.2.2 i := (by rw [k1.2.1 126 (by decide) (by decide)]; exact g3)
        have h8 := h9 w2 (zFr_t hF (zFr_s k1 (by decide))) (fun i hi => by rw [k2 i hi]; exact h4 i hi)
        refine zk_aload_n hX dX11_agrees_64 rfl ?_
        refine zk_getR hX dX11_agrees_65 flX11_76 k_0 z_0 (hw2 _ _ (by decide) |>.trans r_0_12) ?_
        refine zk_getR hX dX11_agrees_68 flX11_439 k_114 z_114 (hw2 _ _ (by decide) |>.trans r_114_5) ?_
        refine zk_iload hX dX11_agrees_71 rfl ?_
        refine zk_ialdE hX dX11_agrees_73 rfl k_126 z_126 (by first | assumption | omega) rfl ?_
        rw [k4]
        refine zk_icmp_ne (tgt := 80) hX dX11_agrees_74 (by decide) (fun c74 => ?_) (fun c74 => ?_)
        · refine zk_iinc (lo' := [_, _, _, _, _]) hX dX11_agrees_80 rfl (by first | exact zinc _ | exact rfl) (Nat.le_of_ble_eq_true rfl) rfl rfl ?_
          refine zk_goto (tgt := 17) hX dX11_agrees_83 (by decide) ?_
          first
          | (rw [if_pos ((zag_t q).mpr (by first | exact c74 | exact Decidable.not_not.mp c74))] at h8; exact h8)
          | (rw [if_neg (fun z => c74 ((zag_t q).mp z))] at h8; exact h8)
        · refine zk_iinc (lo' := [_, _, _, _, _]) hX dX11_agrees_77 rfl (by first | exact zinc _ | exact rfl) (Nat.le_of_ble_eq_true rfl) rfl rfl ?_
          refine zk_iinc (lo' := [_, _, _, _, _]) hX dX11_agrees_80 rfl (by first | exact zinc _ | exact rfl) (Nat.le_of_ble_eq_true rfl) rfl rfl ?_
          refine zk_goto (tgt := 17) hX dX11_agrees_83 (by decide) ?_
          first
          | (rw [if_pos ((zag_t q).mpr (by first | exact c74 | exact Decidable.not_not.mp c74))] at h8; exact h8)
          | (rw [if_neg (fun z => c74 ((zag_t q).mp z))] at h8; exact h8)
      · rw [zcnt_f (show ¬ zca K l i = true from fun z => q (of_decide_eq_true z)), zcnt_f (zag_n q)] at h9
        refine zk_iload hX dX11_agrees_17 rfl ?_
        refine zk_aload_n hX dX11_agrees_19 rfl ?_
        refine zk_getR hX dX11_agrees_20 flX11_76 k_0 z_0 (hw1 _ _ (by decide) |>.trans r_0_12) ?_
        refine zk_getI hX dX11_agrees_23 flX11_421 k_114 z_114 ?_
        rw [hC1.2.1]
        refine zk_icmp_ge (tgt := 86) hX dX11_agrees_26 (by decide) (fun c26 => ?_) (fun c26 => ?_)
        · exact absurd c26 (nI_ge (by omega) (by omega))
        refine zk_aload_n hX dX11_agrees_29 rfl ?_
        refine zk_getR hX dX11_agrees_30 flX11_76 k_0 z_0 (hw1 _ _ (by decide) |>.trans r_0_12) ?_
        refine zk_getR hX dX11_agrees_33 flX11_433 k_114 z_114 (hw1 _ _ (by decide) |>.trans r_114_3) ?_
        refine zk_iload hX dX11_agrees_36 rfl ?_
        refine zk_ialdE hX dX11_agrees_38 rfl k_124 z_124 (by first | assumption | omega) rfl ?_
        rw [g1]
        refine zk_iload_n hX dX11_agrees_39 rfl ?_
        refine zk_icmp_eq (tgt := 46) hX dX11_agrees_40 (by decide) (fun c40 => ?_) (fun c40 => ?_)
        · exact absurd c40 q
        refine zk_goto (tgt := 80) hX dX11_agrees_43 (by decide) ?_
        refine zk_iinc (lo' := [_, _, _, _, _]) hX dX11_agrees_80 rfl (by first | exact zinc _ | exact rfl) (Nat.le_of_ble_eq_true rfl) rfl rfl ?_
        refine zk_goto (tgt := 17) hX dX11_agrees_83 (by decide) ?_
        exact h9 w1 hF h4
  refine zk_aload_n hX dX11_agrees_0 rfl ?_
  refine zk_iload_n hX dX11_agrees_1 rfl ?_
  refine zk_V1i hX dX11_agrees_2 kcX11_isLooker mlX11_414 viX11_isLooker rfl k_0 z_0 (s_X11_isLooker hw _) (Nat.le_of_ble_eq_true rfl) rfl ?_
  refine zk_if_neB (tgt := 10) hX dX11_agrees_5 (by decide) (fun c5 => ?_) (fun c5 => ?_)
  rotate_left
  · exact absurd (by rw [hK]; exact ⟨nI_pos' (by omega), nI_lt hl (by omega)⟩) c5
  refine zk_iconst (v := 0) hX dX11_agrees_10 (by decide) ?_
  refine zk_istore_n (lo' := [_, _, _, _, _]) hX dX11_agrees_11 (Nat.le_of_ble_eq_true rfl) rfl rfl ?_
  refine zk_iconst (v := 0) hX dX11_agrees_12 (by decide) ?_
  refine zk_istore_n (lo' := [_, _, _, _, _]) hX dX11_agrees_13 (Nat.le_of_ble_eq_true rfl) rfl rfl ?_
  refine zk_iconst (v := 0) hX dX11_agrees_14 (by decide) ?_
  refine zk_istore (lo' := [_, _, _, _, _]) hX dX11_agrees_15 (Nat.le_of_ble_eq_true rfl) rfl rfl ?_
  exact loop nc 0 w (by omega) zFr_r (fun _ _ => rfl)
theorem s_X12_agreesBy {G : zG} {w : zW} {D : zD} {b : zBd} {n nc l z u v e a d : Nat} {Zf : Nat → zS} {mo : Nat → Bool} {K : zCd} (hw : zWf w) (hM : mHd w D) (hD : zDok D) (hn : n ≤ 12) (hC : mCs w n nc K) (hPs : mPs w D n Zf mo z u v) (hB : mBs w b) (hL : mLm w z u v) (ho : zlok z u v) (he : e ≤ 9) (ha : a ≤ 9) (hd : d ≤ 9) :
    zCi G mX12_agreesBy [.ref 166, .int (nI l), .int (nI e), .int (nI a), .int (nI d)] w (fun r w' => r = nI (zcnt (zag b Zf mo K l e a d) nc) ∧ zFr [179, 180, 181, 182] [] [29, 57] w w') := by
  have h24 := hC.1
  refine zC_of (lo := [_, _, _, _, _, _, _]) kcX12_agreesBy (Nat.le_of_ble_eq_true rfl) rfl (fun X hX hE => ?_)
  have loop : ∀ m i w1, i + m = nc → zFr [179, 180, 181, 182] [] [29, 57] w w1 → zk0 G X mX12_agreesBy 6 [.ref 166, .int (nI l), .int (nI e), .int (nI a), .int (nI d), .int (nI (zcnt (zag b Zf mo K l e a d) i)), .int (nI i)] [] w1 := by
    intro m
    induction m with
    | zero =>
      intro i w1 hi hF
      obtain rfl : i = nc := by omega
      have hw1 := zFr_wf hF hw
      have hC1 := mCs_f hC hF (by decide)
      refine zk_iload hX dX12_agreesBy_6 rfl ?_
      refine zk_aload_n hX dX12_agreesBy_8 rfl ?_
      refine zk_getI hX dX12_agreesBy_9 flX12_205 k_166 z_166 ?_
      rw [hC1.2.1]
      refine zk_icmp_ge (tgt := 77) hX dX12_agreesBy_12 (by decide) (fun c12 => ?_) (fun c12 => ?_)
      rotate_left
      · exact absurd (nI_le (Nat.le_refl _) (by omega)) c12
      refine zk_iload hX dX12_agreesBy_77 rfl ?_
      refine zk_iret hX hE rfl ⟨rfl, rfl⟩ dX12_agreesBy_79 ⟨_, rfl, ?_⟩
      exact ⟨rfl, hF⟩
    | succ m ih =>
      intro i w1 hi hF
      have hw1 := zFr_wf hF hw
      have hC1 := mCs_f hC hF (by decide)
      obtain ⟨g1, g2, g3, g4⟩ := hC1.2.2 i (by omega)
      have h9 := fun w2 => ih (i + 1) w2 (by omega)
      by_cases q : K.1 i = nI l
      · rw [zcnt_s (P := zag b Zf mo K l e a d)] at h9
        refine zk_iload hX dX12_agreesBy_6 rfl ?_
        refine zk_aload_n hX dX12_agreesBy_8 rfl ?_
        refine zk_getI hX dX12_agreesBy_9 flX12_205 k_166 z_166 ?_
        rw [hC1.2.1]
        refine zk_icmp_ge (tgt := 77) hX dX12_agreesBy_12 (by decide) (fun c12 => ?_) (fun c12 => ?_)
        · exact absurd c12 (nI_ge (by omega) (by omega))
        refine zk_iload hX dX12_agreesBy_15 rfl ?_
        refine zk_aload_n hX dX12_agreesBy_17 rfl ?_
        refine zk_getR hX dX12_agreesBy_18 flX12_114 k_166 z_166 (hw1 _ _ (by decide) |>.trans r_166_56) ?_
        refine zk_iconst (v := 3) hX dX12_agreesBy_21 (by decide) ?_
        refine zk_iload hX dX12_agreesBy_22 rfl ?_
        refine zk_imul hX dX12_agreesBy_24 ?_
        refine zk_ialdE hX dX12_agreesBy_25 (nI_mulE (nI_k 3 rfl) rfl) k_201 z_201 (by first | assumption | omega) rfl ?_
        rw [g1]
        refine zk_iload_n hX dX12_agreesBy_26 rfl ?_
        refine zk_icmp_ne (tgt := 67) hX dX12_agreesBy_27 (by decide) (fun c27 => ?_) (fun c27 => ?_)
        · exact absurd c27 (fun z => z q)
        refine zk_aload_n hX dX12_agreesBy_30 rfl ?_
        refine zk_aload_n hX dX12_agreesBy_31 rfl ?_
        refine zk_getR hX dX12_agreesBy_32 flX12_114 k_166 z_166 (hw1 _ _ (by decide) |>.trans r_166_56) ?_
        refine zk_iconst (v := 3) hX dX12_agreesBy_35 (by decide) ?_
        refine zk_iload hX dX12_agreesBy_36 rfl ?_
        refine zk_imul hX dX12_agreesBy_38 ?_
        refine zk_iconst (v := 1) hX dX12_agreesBy_39 (by decide) ?_
        refine zk_iadd hX dX12_agreesBy_40 ?_
        refine zk_ialdE hX dX12_agreesBy_41 (nI_addE (nI_mulE (nI_k 3 rfl) rfl) (nI_k 1 rfl)) k_201 z_201 (by first | assumption | omega) rfl ?_
        rw [g2]
        refine zk_iload_n hX dX12_agreesBy_42 rfl ?_
        refine zk_iload_n hX dX12_agreesBy_43 rfl ?_
        refine zk_iload hX dX12_agreesBy_44 rfl ?_
        refine zk_V4ip hX dX12_agreesBy_46 kcX12_guessOf mlX12_390 viX12_guessOf rfl k_166 z_166 (s_X12_guessOf hw1 (mHd_f hM hF (by decide)) hD hn g4 (mPs_f hPs hF (by decide)) (mBs_f hB hF (by decide)) (mLm_o hL ⟨hF.2.2.2 25 (by decide), hF.2.2.2 26 (by decide), hF.2.2.2 27 (by decide)⟩) ho he ha hd) (Nat.le_of_ble_eq_true rfl) rfl (fun x w2 q2 => ?_)
        obtain ⟨rfl, k1, _⟩ := q2
        have hw2 := zFr_wf k1 hw1
        have k4 : w2.1 201 (3 * i + 2) = K.2.2 i := (by rw [k1.2.1 201 (by decide) (by decide)]; exact g3)
        have h8 := h9 w2 (zFr_t hF k1)
        refine zk_aload_n hX dX12_agreesBy_49 rfl ?_
        refine zk_getR hX dX12_agreesBy_50 flX12_114 k_166 z_166 (hw2 _ _ (by decide) |>.trans r_166_56) ?_
        refine zk_iconst (v := 3) hX dX12_agreesBy_53 (by decide) ?_
        refine zk_iload hX dX12_agreesBy_54 rfl ?_
        refine zk_imul hX dX12_agreesBy_56 ?_
        refine zk_iconst (v := 2) hX dX12_agreesBy_57 (by decide) ?_
        refine zk_iadd hX dX12_agreesBy_58 ?_
        refine zk_ialdE hX dX12_agreesBy_59 (nI_addE (nI_mulE (nI_k 3 rfl) rfl) (nI_k 2 rfl)) k_201 z_201 (by first | assumption | omega) rfl ?_
        rw [k4]
        refine zk_icmp_ne (tgt := 67) hX dX12_agreesBy_60 (by decide) (fun c60 => ?_) (fun c60 => ?_)
        · refine zk_iconst (v := 0) hX dX12_agreesBy_67 (by decide) ?_
          refine zk_iadd hX dX12_agreesBy_68 ?_
          refine zk_istore (lo' := [_, _, _, _, _, _, _]) hX dX12_agreesBy_69 (Nat.le_of_ble_eq_true rfl) rfl rfl ?_
          refine zk_iinc (lo' := [_, _, _, _, _, _, _]) hX dX12_agreesBy_71 rfl (by first | exact zinc _ | exact rfl) (Nat.le_of_ble_eq_true rfl) rfl rfl ?_
          refine zk_goto (tgt := 6) hX dX12_agreesBy_74 (by decide) ?_
          first
          | (rw [if_pos ((zag_t q).mpr (by first | exact c60 | exact Decidable.not_not.mp c60))] at h8; rw [nI_1]; exact h8)
          | (rw [if_neg (fun z => c60 ((zag_t q).mp z)), Nat.add_zero] at h8; rw [Int32.add_zero]; exact h8)
        · refine zk_iconst (v := 1) hX dX12_agreesBy_63 (by decide) ?_
          refine zk_goto (tgt := 68) hX dX12_agreesBy_64 (by decide) ?_
          refine zk_iadd hX dX12_agreesBy_68 ?_
          refine zk_istore (lo' := [_, _, _, _, _, _, _]) hX dX12_agreesBy_69 (Nat.le_of_ble_eq_true rfl) rfl rfl ?_
          refine zk_iinc (lo' := [_, _, _, _, _, _, _]) hX dX12_agreesBy_71 rfl (by first | exact zinc _ | exact rfl) (Nat.le_of_ble_eq_true rfl) rfl rfl ?_
          refine zk_goto (tgt := 6) hX dX12_agreesBy_74 (by decide) ?_
          first
          | (rw [if_pos ((zag_t q).mpr (by first | exact c60 | exact Decidable.not_not.mp c60))] at h8; rw [nI_1]; exact h8)
          | (rw [if_neg (fun z => c60 ((zag_t q).mp z)), Nat.add_zero] at h8; rw [Int32.add_zero]; exact h8)
      · rw [zcnt_f (zag_n q)] at h9
        refine zk_iload hX dX12_agreesBy_6 rfl ?_
        refine zk_aload_n hX dX12_agreesBy_8 rfl ?_
        refine zk_getI hX dX12_agreesBy_9 flX12_205 k_166 z_166 ?_
        rw [hC1.2.1]
        refine zk_icmp_ge (tgt := 77) hX dX12_agreesBy_12 (by decide) (fun c12 => ?_) (fun c12 => ?_)
        · exact absurd c12 (nI_ge (by omega) (by omega))
        refine zk_iload hX dX12_agreesBy_15 rfl ?_
        refine zk_aload_n hX dX12_agreesBy_17 rfl ?_
        refine zk_getR hX dX12_agreesBy_18 flX12_114 k_166 z_166 (hw1 _ _ (by decide) |>.trans r_166_56) ?_
        refine zk_iconst (v := 3) hX dX12_agreesBy_21 (by decide) ?_
        refine zk_iload hX dX12_agreesBy_22 rfl ?_
        refine zk_imul hX dX12_agreesBy_24 ?_
        refine zk_ialdE hX dX12_agreesBy_25 (nI_mulE (nI_k 3 rfl) rfl) k_201 z_201 (by first | assumption | omega) rfl ?_
        rw [g1]
        refine zk_iload_n hX dX12_agreesBy_26 rfl ?_
        refine zk_icmp_ne (tgt := 67) hX dX12_agreesBy_27 (by decide) (fun c27 => ?_) (fun c27 => ?_)
        rotate_left
        · exact absurd c27 q
        refine zk_iconst (v := 0) hX dX12_agreesBy_67 (by decide) ?_
        refine zk_iadd hX dX12_agreesBy_68 ?_
        refine zk_istore (lo' := [_, _, _, _, _, _, _]) hX dX12_agreesBy_69 (Nat.le_of_ble_eq_true rfl) rfl rfl ?_
        refine zk_iinc (lo' := [_, _, _, _, _, _, _]) hX dX12_agreesBy_71 rfl (by first | exact zinc _ | exact rfl) (Nat.le_of_ble_eq_true rfl) rfl rfl ?_
        refine zk_goto (tgt := 6) hX dX12_agreesBy_74 (by decide) ?_
        rw [Int32.add_zero]
        exact h9 w1 hF
  refine zk_iconst (v := 0) hX dX12_agreesBy_0 (by decide) ?_
  refine zk_istore (lo' := [_, _, _, _, _, _, _]) hX dX12_agreesBy_1 (Nat.le_of_ble_eq_true rfl) rfl rfl ?_
  refine zk_iconst (v := 0) hX dX12_agreesBy_3 (by decide) ?_
  refine zk_istore (lo' := [_, _, _, _, _, _, _]) hX dX12_agreesBy_4 (Nat.le_of_ble_eq_true rfl) rfl rfl ?_
  exact loop nc 0 w (by omega) zFr_r
theorem s_X12_agrees_bad {G : zG} {w : zW} {nl : Nat} (hn8 : nl ≤ 8) (hK : w.1 166 53 = nI nl) (l : Int32) (h : ¬ (0 ≤ l ∧ l < nI nl)) : zEi G mX12_agrees [.ref 166, .int l] w (-1) w := by
  refine zC_of (lo := [_, _, _, _]) kcX12_agrees (Nat.le_of_ble_eq_true rfl) rfl (fun X hX hE => ?_)
  refine zk_aload_n hX dX12_agrees_0 rfl ?_
  refine zk_iload_n hX dX12_agrees_1 rfl ?_
  refine zk_V1i hX dX12_agrees_2 kcX12_isLooker mlX12_384 viX12_isLooker rfl k_166 z_166 (s_X12_isLooker' (n := nl) (by omega) hK _) (Nat.le_of_ble_eq_true rfl) rfl ?_
  refine zk_if_neB (tgt := 10) hX dX12_agrees_5 (by decide) (fun c5 => ?_) (fun c5 => ?_)
  · exact absurd c5 h
  refine zk_iconst (v := -1) hX dX12_agrees_8 (by decide) ?_
  refine zk_iret hX hE rfl ⟨rfl, rfl⟩ dX12_agrees_9 ⟨_, rfl, ?_⟩
  exact ⟨rfl, rfl⟩
theorem s_X12_agrees {G : zG} {w : zW} {D : zD} {b : zBd} {n nl nc l z u v e a d : Nat} {Zf : Nat → zS} {mo : Nat → Bool} {K : zCd} (hw : zWf w) (hM : mHd w D) (hD : zDok D) (hn : n ≤ 12) (hn8 : nl ≤ 8) (hK : w.1 166 53 = nI nl) (hl : l < nl) (hC : mCs w n nc K) (hPs : mPs w D n Zf mo z u v) (hB : mBs w b) (hL : mLm w z u v) (ho : zlok z u v) (he : e ≤ 9) (ha : a ≤ 9) (hd : d ≤ 9) (hW : w.1 200 (3 * l) = nI e ∧ w.1 200 (3 * l + 1) = nI a ∧ w.1 200 (3 * l + 2) = nI d) :
    zCi G mX12_agrees [.ref 166, .int (nI l)] w (fun r w' => r = nI (zcnt (zag b Zf mo K l e a d) nc) ∧ zFr [179, 180, 181, 182] [] [2, 29, 57] w w' ∧ w'.1 166 2 = nI (zcnt (zca K l) nc)) := by
  have h24 := hC.1
  refine zC_of (lo := [_, _, _, _]) kcX12_agrees (Nat.le_of_ble_eq_true rfl) rfl (fun X hX hE => ?_)
  have loop : ∀ m i, i + m = nc → zk0 G X mX12_agrees 14 [.ref 166, .int (nI l), .int (nI (zcnt (zca K l) i)), .int (nI i)] [] w := by
    intro m
    induction m with
    | zero =>
      intro i hi
      obtain rfl : i = nc := by omega
      refine zk_iload_n hX dX12_agrees_14 rfl ?_
      refine zk_aload_n hX dX12_agrees_15 rfl ?_
      refine zk_getI hX dX12_agrees_16 flX12_205 k_166 z_166 ?_
      rw [hC.2.1]
      refine zk_icmp_ge (tgt := 48) hX dX12_agrees_19 (by decide) (fun c19 => ?_) (fun c19 => ?_)
      rotate_left
      · exact absurd (nI_le (Nat.le_refl _) (by omega)) c19
      refine zk_aload_n hX dX12_agrees_48 rfl ?_
      refine zk_iload_n hX dX12_agrees_49 rfl ?_
      refine zk_aload_n hX dX12_agrees_50 rfl ?_
      refine zk_iload_n hX dX12_agrees_51 rfl ?_
      refine zk_aload_n hX dX12_agrees_52 rfl ?_
      refine zk_getR hX dX12_agrees_53 flX12_111 k_166 z_166 (hw _ _ (by decide) |>.trans r_166_54) ?_
      refine zk_iconst (v := 3) hX dX12_agrees_56 (by decide) ?_
      refine zk_iload_n hX dX12_agrees_57 rfl ?_
      refine zk_imul hX dX12_agrees_58 ?_
      refine zk_ialdE hX dX12_agrees_59 (nI_mulE (nI_k 3 rfl) rfl) k_200 z_200 (by first | assumption | omega) rfl ?_
      rw [hW.1]
      refine zk_aload_n hX dX12_agrees_60 rfl ?_
      refine zk_getR hX dX12_agrees_61 flX12_111 k_166 z_166 (hw _ _ (by decide) |>.trans r_166_54) ?_
      refine zk_iconst (v := 3) hX dX12_agrees_64 (by decide) ?_
      refine zk_iload_n hX dX12_agrees_65 rfl ?_
      refine zk_imul hX dX12_agrees_66 ?_
      refine zk_iconst (v := 1) hX dX12_agrees_67 (by decide) ?_
      refine zk_iadd hX dX12_agrees_68 ?_
      refine zk_ialdE hX dX12_agrees_69 (nI_addE (nI_mulE (nI_k 3 rfl) rfl) (nI_k 1 rfl)) k_200 z_200 (by first | assumption | omega) rfl ?_
      rw [hW.2.1]
      refine zk_aload_n hX dX12_agrees_70 rfl ?_
      refine zk_getR hX dX12_agrees_71 flX12_111 k_166 z_166 (hw _ _ (by decide) |>.trans r_166_54) ?_
      refine zk_iconst (v := 3) hX dX12_agrees_74 (by decide) ?_
      refine zk_iload_n hX dX12_agrees_75 rfl ?_
      refine zk_imul hX dX12_agrees_76 ?_
      refine zk_iconst (v := 2) hX dX12_agrees_77 (by decide) ?_
      refine zk_iadd hX dX12_agrees_78 ?_
      refine zk_ialdE hX dX12_agrees_79 (nI_addE (nI_mulE (nI_k 3 rfl) rfl) (nI_k 2 rfl)) k_200 z_200 (by first | assumption | omega) rfl ?_
      rw [hW.2.2]
      refine zk_V4ip hX dX12_agrees_80 kcX12_agreesBy mlX12_394 viX12_agreesBy rfl k_166 z_166 (s_X12_agreesBy hw hM hD hn hC hPs hB hL ho he ha hd) (Nat.le_of_ble_eq_true rfl) rfl (fun x w2 q2 => ?_)
      obtain ⟨rfl, k1⟩ := q2
      refine zk_V2i hX dX12_agrees_83 kcX12_tells mlX12_153 viX12_tells rfl k_166 z_166 (s_X12_tells _ _) (Nat.le_of_ble_eq_true rfl) rfl ?_
      refine zk_iret hX hE rfl ⟨rfl, rfl⟩ dX12_agrees_86 ⟨_, rfl, ?_⟩
      exact ⟨rfl, zFr_t (zFr_s k1 (by decide)) (zFr_m (by decide)), by rw [zsi_1, if_pos ⟨rfl, rfl⟩]⟩
    | succ m ih =>
      intro i hi
      obtain ⟨g1, g2, g3, g4⟩ := hC.2.2 i (by omega)
      have h9 := ih (i + 1) (by omega)
      rw [zcnt_s (P := zca K l)] at h9
      refine zk_iload_n hX dX12_agrees_14 rfl ?_
      refine zk_aload_n hX dX12_agrees_15 rfl ?_
      refine zk_getI hX dX12_agrees_16 flX12_205 k_166 z_166 ?_
      rw [hC.2.1]
      refine zk_icmp_ge (tgt := 48) hX dX12_agrees_19 (by decide) (fun c19 => ?_) (fun c19 => ?_)
      · exact absurd c19 (nI_ge (by omega) (by omega))
      refine zk_iload_n hX dX12_agrees_22 rfl ?_
      refine zk_aload_n hX dX12_agrees_23 rfl ?_
      refine zk_getR hX dX12_agrees_24 flX12_114 k_166 z_166 (hw _ _ (by decide) |>.trans r_166_56) ?_
      refine zk_iconst (v := 3) hX dX12_agrees_27 (by decide) ?_
      refine zk_iload_n hX dX12_agrees_28 rfl ?_
      refine zk_imul hX dX12_agrees_29 ?_
      refine zk_ialdE hX dX12_agrees_30 (nI_mulE (nI_k 3 rfl) rfl) k_201 z_201 (by first | assumption | omega) rfl ?_
      rw [g1]
      refine zk_iload_n hX dX12_agrees_31 rfl ?_
      refine zk_icmp_ne (tgt := 39) hX dX12_agrees_32 (by decide) (fun c32 => ?_) (fun c32 => ?_)
      · refine zk_iconst (v := 0) hX dX12_agrees_39 (by decide) ?_
        refine zk_iadd hX dX12_agrees_40 ?_
        refine zk_istore_n (lo' := [_, _, _, _]) hX dX12_agrees_41 (Nat.le_of_ble_eq_true rfl) rfl rfl ?_
        refine zk_iinc (lo' := [_, _, _, _]) hX dX12_agrees_42 rfl (by first | exact zinc _ | exact rfl) (Nat.le_of_ble_eq_true rfl) rfl rfl ?_
        refine zk_goto (tgt := 14) hX dX12_agrees_45 (by decide) ?_
        first
        | (rw [if_pos (show zca K l i = true from decide_eq_true (by first | exact c32 | exact Decidable.not_not.mp c32))] at h9; rw [nI_1]; exact h9)
        | (rw [if_neg (show ¬ zca K l i = true from fun z => c32 (of_decide_eq_true z)), Nat.add_zero] at h9; rw [Int32.add_zero]; exact h9)
      · refine zk_iconst (v := 1) hX dX12_agrees_35 (by decide) ?_
        refine zk_goto (tgt := 40) hX dX12_agrees_36 (by decide) ?_
        refine zk_iadd hX dX12_agrees_40 ?_
        refine zk_istore_n (lo' := [_, _, _, _]) hX dX12_agrees_41 (Nat.le_of_ble_eq_true rfl) rfl rfl ?_
        refine zk_iinc (lo' := [_, _, _, _]) hX dX12_agrees_42 rfl (by first | exact zinc _ | exact rfl) (Nat.le_of_ble_eq_true rfl) rfl rfl ?_
        refine zk_goto (tgt := 14) hX dX12_agrees_45 (by decide) ?_
        first
        | (rw [if_pos (show zca K l i = true from decide_eq_true (by first | exact c32 | exact Decidable.not_not.mp c32))] at h9; rw [nI_1]; exact h9)
        | (rw [if_neg (show ¬ zca K l i = true from fun z => c32 (of_decide_eq_true z)), Nat.add_zero] at h9; rw [Int32.add_zero]; exact h9)
  refine zk_aload_n hX dX12_agrees_0 rfl ?_
  refine zk_iload_n hX dX12_agrees_1 rfl ?_
  refine zk_V1i hX dX12_agrees_2 kcX12_isLooker mlX12_384 viX12_isLooker rfl k_166 z_166 (s_X12_isLooker' (n := nl) (by omega) hK _) (Nat.le_of_ble_eq_true rfl) rfl ?_
  refine zk_if_neB (tgt := 10) hX dX12_agrees_5 (by decide) (fun c5 => ?_) (fun c5 => ?_)
  rotate_left
  · exact absurd ⟨nI_pos' (by omega), nI_lt hl (by omega)⟩ c5
  refine zk_iconst (v := 0) hX dX12_agrees_10 (by decide) ?_
  refine zk_istore_n (lo' := [_, _, _, _]) hX dX12_agrees_11 (Nat.le_of_ble_eq_true rfl) rfl rfl ?_
  refine zk_iconst (v := 0) hX dX12_agrees_12 (by decide) ?_
  refine zk_istore_n (lo' := [_, _, _, _]) hX dX12_agrees_13 (Nat.le_of_ble_eq_true rfl) rfl rfl ?_
  exact loop nc 0 (by omega)
theorem zO_agrees {G : zG} (l : Int32) : zOi G mX11_agrees mX12_agrees [.int l] := by
  intro w h
  have h0 := h
  obtain ⟨hw, hT, hR, hX, hB, D, z, u, v, T, n, nl, c, hH, hL, hS, hP, hK⟩ := h
  obtain ⟨hD, hH1, hM, hRe⟩ := hH
  have h12 := hP.1
  have h8 := hK.1.1
  by_cases hk0 : 0 ≤ l ∧ l < nI nl
  · obtain ⟨l, hl, rfl⟩ := rn (by omega) hk0
    obtain ⟨b, b1, b2⟩ := qB_b hB
    obtain ⟨Zf, mo, p1, p2⟩ := qP_s hD hP z u v
    obtain ⟨e, a, d, ⟨he, ha, hd⟩, w1, w2⟩ := qK_w hK hl
    obtain ⟨K, c1, c2⟩ := qK_c hK h12
    refine zCi_m (s_X11_agrees (G := G) hw h12 h8 hK.1.2.1 hl c1 p1 b1 hL.2.1 hL.1 he ha hd w1) (fun r w3 g => ?_)
    obtain ⟨rfl, k1, k2, k3, k4⟩ := g
    refine zCi_m (s_X12_agrees (G := G) (w := w3) (zFr_wf k1 hw) (mHd_f hM k1 (by decide)) hD h12 h8 (by rw [k1.2.2.2 53 (by decide)]; exact hK.1.2.2.1) hl (mCs_f c2 k1 (by decide)) (mPs_f p2 k1 (by decide)) (mBs_f b2 k1 (by decide)) (mLm_o hL.2.2 ⟨k1.2.2.2 25 (by decide), k1.2.2.2 26 (by decide), k1.2.2.2 27 (by decide)⟩) hL.1 he ha hd (by rw [k1.2.1 200 (by decide) (by decide)]; exact w2)) (fun r w4 g => ?_)
    obtain ⟨rfl, k5, k6⟩ := g
    have hF : zFr [1, 114, 127, 128, 129, 179, 180, 181, 182] [163] [2, 29, 57] w w4 := zFr_t (zFr_s k1 (by decide)) (zFr_s k5 (by decide))
    refine ⟨rfl, zQ_look h0 (zFr_wf hF hw) hF (by decide) (fun i hi => by rw [k5.2.1 114 (by decide) (by decide)]; exact k2 i hi) (qT_v hT ?_ ⟨hF.2.2.1 1 (by decide), hF.2.2.1 166 (by decide)⟩ ⟨?_, hF.2.2.2 0 (by decide)⟩ ⟨hF.2.1 2 (by decide) (by decide), hF.2.1 167 (by decide) (by decide)⟩)⟩
    · rw [k5.2.1 1 (by decide) (by decide), k4, k6]
    · rw [k5.2.1 1 (by decide) (by decide), k3 3 (by decide)]
  · exact zOe (s_X11_agrees_bad hw l (by rw [hK.1.2.1]; exact hk0)) (s_X12_agrees_bad h8 hK.1.2.2.1 l hk0) rfl h0
