/-! two: two hands that make one beast each -/
theorem zP_ag {D : zD} (hD : zDok D) {t t' : Nat → Int32} {o : Int32} (h : ∀ j, j < dJ D → zac D o (dH D j) = true → t j = t' j) : zP D t o = zP D t' o ∧ zldo D t o (dJ D) = zldo D t' o (dJ D) := by
  constructor
  · exact zLf_c hD (Nat.le_refl _) (fun f hf q k hk => h _ (zoff_in hD hf hk) (by rw [hD.2.2.2.2.2 f k hf hk]; exact q))
  · unfold zldo
    refine zsm_c (fun j hj => ?_)
    by_cases q : zac D o (dH D j) = true
    · rw [if_pos q, if_pos q, h j hj q]
    · rw [if_neg q, if_neg q]
def cO (D : zD) (o : Int32) (z u v T : Nat) (M Y : zS) : Int32 := zoe ((zbst (rH D o T) (rO D o z u v M Y) (zN_ D o (dF D))).map (rO D o z u v M Y))
def mO (D : zD) (o : Int32) (z u v T : Nat) (M Y : zS) : Int32 := zoe ((zbst (mQ D o T) (mF D o z u v M Y) (zpr (zsp D) (dJ D))).map (mF D o z u v M Y))
theorem zro {D : zD} (hD : zDok D) {o : Int32} {z u v T i i' : Nat} {M Y : zS} (hi : i < zN_ D o (dF D)) (h : ∀ j, j < dJ D → zac D o (dH D j) = true → zrt D o (dF D) i j = zcode_t D i' j) : (rH D o T i = true ↔ mQ D o T i' = true) ∧ mF D o z u v M Y i' = rO D o z u v M Y i := by
  obtain ⟨e1, e2⟩ := zP_ag hD h
  have e3 : rL D o (dF D) i = zP D (zcode_t D i') o := e1
  have e4 : rA D o (dF D) i = zldo D (zcode_t D i') o (dJ D) := by
    rw [← e2]
    unfold rA
    rw [hD.2.2.2.1]
  constructor
  · unfold rH
    rw [decide_eq_true_eq, mQ_t, zkd_1, e3, e4]
    exact ⟨fun q => q.2, fun q => ⟨hi, q⟩⟩
  · unfold mF rO mS
    rw [e3]
theorem cO_m {D : zD} (hD : zDok D) {o : Int32} {z u v T : Nat} {M Y : zS} : cO D o z u v T M Y = mO D o z u v T M Y := by
  unfold cO mO
  refine congrArg zoe ?_
  have eN : zN_ D o (dF D) = zpr (zso D o) (dJ D) := by unfold zN_; rw [hD.2.2.2.1]
  refine zbst_v (fun i hi pi => ?_) (fun i' hi' pi' => ?_)
  · have hd : ∀ j, j < dJ D → (if zac D o (dH D j) = true then zdg (zso D o) (dJ D) i j else 0) < zsp D j := fun j hj => by
      split
      · exact Nat.lt_of_lt_of_le (zdg_lt i zso_pos hj) zso_le
      · exact (zsp_b hD hj).1
    have hlt := zcd_lt hd
    obtain ⟨g1, g2⟩ := zro (z := z) (u := u) (v := v) (T := T) (M := M) (Y := Y) hD hi (i' := zcd (zsp D) (fun j => if zac D o (dH D j) = true then zdg (zso D o) (dJ D) i j else 0) (dJ D)) (fun j hj q => by
      unfold zrt zcode_t ztv
      rw [zdg_cd hd hj, if_pos q, hD.2.2.2.1])
    exact ⟨_, hlt, g1.mp pi, g2⟩
  · have hd : ∀ j, j < dJ D → (if zac D o (dH D j) = true then zdg (zsp D) (dJ D) i' j else 0) < zso D o j := fun j hj => by
      split
      · rename_i q
        unfold zso
        rw [if_pos q]
        exact zdg_lt i' (zsp_b hD hj).1 hj
      · exact zso_pos
    have hlt := zcd_lt hd
    rw [← eN] at hlt
    obtain ⟨g1, g2⟩ := zro (z := z) (u := u) (v := v) (T := T) (M := M) (Y := Y) hD hlt (i' := i') (fun j hj q => by
      unfold zrt zcode_t ztv
      rw [hD.2.2.2.1, zdg_cd hd hj, if_pos q])
    exact ⟨_, hlt, g1.mpr pi', g2.symm⟩
theorem s_X6_cO {G : zG} {w : zW} {D : zD} {o : Int32} {k z u v T : Nat} {M Y : zS} {r : Int32} (hw : zWf w) (hD : zDok D) (hT9 : T ≤ 99) (hT : cTab w D o) (hR : cThr w D o z u v (dF D)) (hk : k < 6) (hB : cBe w k M Y) (hr : cO D o z u v T M Y = r) :
    zEi G mX6_leastOff [.ref 131, .ref 26, .ref (96 + 3 * k), .int (nI T), .int (-9)] w r w := by
  rw [← hr]
  exact s_X6_leastOff_n hw hD hT9 hT hR hk hB
theorem cOwn_g {A B F : List Nat} {w w' : zW} {D : zD} (h : cOwn w D) (hF : zFr A B F w w') (k : (okc [139, 140] A && okc [141, 142] B) = true) : cOwn w' D := by
  simp only [Bool.and_eq_true] at k
  unfold cOwn cOwn1
  rw [hF.2.1 139 (okc_m k.1 (by simp)) (by decide), hF.2.1 140 (okc_m k.1 (by simp)) (by decide), hF.2.2.1 141 (okc_m k.2 (by simp)), hF.2.2.1 142 (okc_m k.2 (by simp))]
  exact h
def zt2a (α β γ δ : Int32) : Int32 := if α = -9 ∨ β = -9 then -9 else if α + β ≤ γ + δ then 0 else 1
def zt2b (α β γ δ e : Int32) : Int32 := if α = -9 ∨ β = -9 then e else if α + β ≤ γ + δ then α + β else γ + δ
theorem s_X11_two_bad {G : zG} {w : zW} (k l : Int32) (h : ¬ ((0 ≤ k ∧ k < 6) ∧ (0 ≤ l ∧ l < 6))) : zEi G mX11_two [.ref 0, .int k, .int l] w (-1) w := by
  refine zC_of (lo := [_, _, _, _, _, _, _]) kcX11_two (Nat.le_of_ble_eq_true rfl) rfl (fun X hX hE => ?_)
  refine zk_iload_n hX dX11_two_0 rfl ?_
  refine zk_S1i hX dX11_two_1 kcX11_isBeast mlX11_272 smX11_isBeast rfl (s_X11_isBeast _) (Nat.le_of_ble_eq_true rfl) rfl ?_
  refine zk_if_eqB (tgt := 14) hX dX11_two_4 (by decide) (fun c4 => ?_) (fun c4 => ?_)
  · refine zk_iconst (v := -1) hX dX11_two_14 (by decide) ?_
    refine zk_iret hX hE rfl ⟨rfl, rfl⟩ dX11_two_15 ⟨_, rfl, ?_⟩
    exact ⟨rfl, rfl⟩
  · refine zk_iload_n hX dX11_two_7 rfl ?_
    refine zk_S1i hX dX11_two_8 kcX11_isBeast mlX11_272 smX11_isBeast rfl (s_X11_isBeast _) (Nat.le_of_ble_eq_true rfl) rfl ?_
    refine zk_if_neB (tgt := 16) hX dX11_two_11 (by decide) (fun c11 => ?_) (fun c11 => ?_)
    · exact absurd c11 (fun q => h ⟨by first | exact c4 | exact Decidable.not_not.mp c4, q⟩)
    refine zk_iconst (v := -1) hX dX11_two_14 (by decide) ?_
    refine zk_iret hX hE rfl ⟨rfl, rfl⟩ dX11_two_15 ⟨_, rfl, ?_⟩
    exact ⟨rfl, rfl⟩
theorem s_X11_two_t {G : zG} {w : zW} {k l n : Nat} (hw : zWf w) (hk : k < 6) (hl : l < 6) (hn : n < 2) (h : w.1 26 0 = nI n) : zEi G mX11_two [.ref 0, .int (nI k), .int (nI l)] w (-4) w := by
  refine zC_of (lo := [_, _, _, _, _, _, _]) kcX11_two (Nat.le_of_ble_eq_true rfl) rfl (fun X hX hE => ?_)
  refine zk_iload_n hX dX11_two_0 rfl ?_
  refine zk_S1i hX dX11_two_1 kcX11_isBeast mlX11_272 smX11_isBeast rfl (s_X11_isBeast _) (Nat.le_of_ble_eq_true rfl) rfl ?_
  refine zk_if_eqB (tgt := 14) hX dX11_two_4 (by decide) (fun c4 => ?_) (fun c4 => ?_)
  · exact absurd c4 (not_not_intro (zrlt hk))
  refine zk_iload_n hX dX11_two_7 rfl ?_
  refine zk_S1i hX dX11_two_8 kcX11_isBeast mlX11_272 smX11_isBeast rfl (s_X11_isBeast _) (Nat.le_of_ble_eq_true rfl) rfl ?_
  refine zk_if_neB (tgt := 16) hX dX11_two_11 (by decide) (fun c11 => ?_) (fun c11 => ?_)
  rotate_left
  · exact absurd (zrlt hl) c11
  refine zk_aload_n hX dX11_two_16 rfl ?_
  refine zk_getR hX dX11_two_17 flX11_38 k_0 z_0 (hw _ _ (by decide) |>.trans r_0_4) ?_
  refine zk_getI hX dX11_two_20 flX11_389 k_26 z_26 ?_
  rw [h]
  refine zk_iconst (v := 2) hX dX11_two_23 (by decide) ?_
  refine zk_icmp_eq (tgt := 30) hX dX11_two_24 (by decide) (fun c24 => ?_) (fun c24 => ?_)
  · exact absurd (nI_inj (b := 2) (by omega) (by decide) c24) (by omega)
  refine zk_bipush (v := -4) hX dX11_two_27 (by decide) ?_
  refine zk_iret hX hE rfl ⟨rfl, rfl⟩ dX11_two_29 ⟨_, rfl, ?_⟩
  exact ⟨rfl, rfl⟩
theorem s_X11_two_m {G : zG} {w : zW} {k l : Nat} (hw : zWf w) (hk : k < 6) (hl : l < 6) (h : w.1 26 0 = 2) (ht : ¬ (¬ w.1 (96 + 3 * k) 3 = 0 ∧ ¬ w.1 (96 + 3 * l) 3 = 0)) : zEi G mX11_two [.ref 0, .int (nI k), .int (nI l)] w (-3) (zfind w 1) := by
  refine zC_of (lo := [_, _, _, _, _, _, _]) kcX11_two (Nat.le_of_ble_eq_true rfl) rfl (fun X hX hE => ?_)
  refine zk_iload_n hX dX11_two_0 rfl ?_
  refine zk_S1i hX dX11_two_1 kcX11_isBeast mlX11_272 smX11_isBeast rfl (s_X11_isBeast _) (Nat.le_of_ble_eq_true rfl) rfl ?_
  refine zk_if_eqB (tgt := 14) hX dX11_two_4 (by decide) (fun c4 => ?_) (fun c4 => ?_)
  · exact absurd c4 (not_not_intro (zrlt hk))
  refine zk_iload_n hX dX11_two_7 rfl ?_
  refine zk_S1i hX dX11_two_8 kcX11_isBeast mlX11_272 smX11_isBeast rfl (s_X11_isBeast _) (Nat.le_of_ble_eq_true rfl) rfl ?_
  refine zk_if_neB (tgt := 16) hX dX11_two_11 (by decide) (fun c11 => ?_) (fun c11 => ?_)
  rotate_left
  · exact absurd (zrlt hl) c11
  refine zk_aload_n hX dX11_two_16 rfl ?_
  refine zk_getR hX dX11_two_17 flX11_38 k_0 z_0 (hw _ _ (by decide) |>.trans r_0_4) ?_
  refine zk_getI hX dX11_two_20 flX11_389 k_26 z_26 ?_
  refine zk_iconst (v := 2) hX dX11_two_23 (by decide) ?_
  refine zk_icmp_eq (tgt := 30) hX dX11_two_24 (by decide) (fun c24 => ?_) (fun c24 => ?_)
  rotate_left
  · exact absurd h c24
  refine zk_aload_n hX dX11_two_30 rfl ?_
  refine zk_getR hX dX11_two_31 flX11_68 k_0 z_0 (hw _ _ (by decide) |>.trans r_0_11) ?_
  refine zk_iload_n hX dX11_two_34 rfl ?_
  refine zk_beasts hX hw dX11_two_35 rfl (by first | assumption | omega) ?_
  refine zk_getI hX dX11_two_36 flX11_284 (zBek (by first | assumption | omega)) (zBez _ (by first | assumption | omega)).1 ?_
  refine zk_if_eq (tgt := 54) hX dX11_two_39 (by decide) (fun c39 => ?_) (fun c39 => ?_)
  · refine zk_aload_n hX dX11_two_54 rfl ?_
    refine zk_getR hX dX11_two_55 flX11_12 k_0 z_0 (hw _ _ (by decide) |>.trans r_0_0) ?_
    refine zk_iconst (v := 1) hX dX11_two_58 (by decide) ?_
    refine zk_V1i hX dX11_two_59 kcX9_find mlX11_111 viX9_find rfl k_1 z_1 (s_X9_find hw _ (by decide)) (Nat.le_of_ble_eq_true rfl) rfl ?_
    refine zk_iret hX hE rfl ⟨rfl, rfl⟩ dX11_two_62 ⟨_, rfl, ?_⟩
    exact ⟨rfl, rfl⟩
  · refine zk_aload_n hX dX11_two_42 rfl ?_
    refine zk_getR hX dX11_two_43 flX11_68 k_0 z_0 (hw _ _ (by decide) |>.trans r_0_11) ?_
    refine zk_iload_n hX dX11_two_46 rfl ?_
    refine zk_beasts hX hw dX11_two_47 rfl (by first | assumption | omega) ?_
    refine zk_getI hX dX11_two_48 flX11_284 (zBek (by first | assumption | omega)) (zBez _ (by first | assumption | omega)).1 ?_
    refine zk_if_ne (tgt := 63) hX dX11_two_51 (by decide) (fun c51 => ?_) (fun c51 => ?_)
    · exact absurd c51 (fun q => ht ⟨c39, q⟩)
    refine zk_aload_n hX dX11_two_54 rfl ?_
    refine zk_getR hX dX11_two_55 flX11_12 k_0 z_0 (hw _ _ (by decide) |>.trans r_0_0) ?_
    refine zk_iconst (v := 1) hX dX11_two_58 (by decide) ?_
    refine zk_V1i hX dX11_two_59 kcX9_find mlX11_111 viX9_find rfl k_1 z_1 (s_X9_find hw _ (by decide)) (Nat.le_of_ble_eq_true rfl) rfl ?_
    refine zk_iret hX hE rfl ⟨rfl, rfl⟩ dX11_two_62 ⟨_, rfl, ?_⟩
    exact ⟨rfl, rfl⟩
theorem s_X11_two_s {G : zG} {w : zW} {k l : Nat} (hw : zWf w) (hk : k < 6) (hl : l < 6) (h : w.1 26 0 = 2) (ht : ¬ w.1 (96 + 3 * k) 3 = 0 ∧ ¬ w.1 (96 + 3 * l) 3 = 0) (hs : w.1 131 0 = 1) : zEi G mX11_two [.ref 0, .int (nI k), .int (nI l)] w (-6) w := by
  refine zC_of (lo := [_, _, _, _, _, _, _]) kcX11_two (Nat.le_of_ble_eq_true rfl) rfl (fun X hX hE => ?_)
  refine zk_iload_n hX dX11_two_0 rfl ?_
  refine zk_S1i hX dX11_two_1 kcX11_isBeast mlX11_272 smX11_isBeast rfl (s_X11_isBeast _) (Nat.le_of_ble_eq_true rfl) rfl ?_
  refine zk_if_eqB (tgt := 14) hX dX11_two_4 (by decide) (fun c4 => ?_) (fun c4 => ?_)
  · exact absurd c4 (not_not_intro (zrlt hk))
  refine zk_iload_n hX dX11_two_7 rfl ?_
  refine zk_S1i hX dX11_two_8 kcX11_isBeast mlX11_272 smX11_isBeast rfl (s_X11_isBeast _) (Nat.le_of_ble_eq_true rfl) rfl ?_
  refine zk_if_neB (tgt := 16) hX dX11_two_11 (by decide) (fun c11 => ?_) (fun c11 => ?_)
  rotate_left
  · exact absurd (zrlt hl) c11
  refine zk_aload_n hX dX11_two_16 rfl ?_
  refine zk_getR hX dX11_two_17 flX11_38 k_0 z_0 (hw _ _ (by decide) |>.trans r_0_4) ?_
  refine zk_getI hX dX11_two_20 flX11_389 k_26 z_26 ?_
  refine zk_iconst (v := 2) hX dX11_two_23 (by decide) ?_
  refine zk_icmp_eq (tgt := 30) hX dX11_two_24 (by decide) (fun c24 => ?_) (fun c24 => ?_)
  rotate_left
  · exact absurd h c24
  refine zk_aload_n hX dX11_two_30 rfl ?_
  refine zk_getR hX dX11_two_31 flX11_68 k_0 z_0 (hw _ _ (by decide) |>.trans r_0_11) ?_
  refine zk_iload_n hX dX11_two_34 rfl ?_
  refine zk_beasts hX hw dX11_two_35 rfl (by first | assumption | omega) ?_
  refine zk_getI hX dX11_two_36 flX11_284 (zBek (by first | assumption | omega)) (zBez _ (by first | assumption | omega)).1 ?_
  refine zk_if_eq (tgt := 54) hX dX11_two_39 (by decide) (fun c39 => ?_) (fun c39 => ?_)
  · exact absurd c39 ht.1
  refine zk_aload_n hX dX11_two_42 rfl ?_
  refine zk_getR hX dX11_two_43 flX11_68 k_0 z_0 (hw _ _ (by decide) |>.trans r_0_11) ?_
  refine zk_iload_n hX dX11_two_46 rfl ?_
  refine zk_beasts hX hw dX11_two_47 rfl (by first | assumption | omega) ?_
  refine zk_getI hX dX11_two_48 flX11_284 (zBek (by first | assumption | omega)) (zBez _ (by first | assumption | omega)).1 ?_
  refine zk_if_ne (tgt := 63) hX dX11_two_51 (by decide) (fun c51 => ?_) (fun c51 => ?_)
  rotate_left
  · exact absurd c51 ht.2
  refine zk_aload_n hX dX11_two_63 rfl ?_
  refine zk_getR hX dX11_two_64 flX11_83 k_0 z_0 (hw _ _ (by decide) |>.trans r_0_13) ?_
  refine zk_getI hX dX11_two_67 flX11_302 k_131 z_131 ?_
  rw [hs]
  refine zk_if_eq (tgt := 76) hX dX11_two_70 (by decide) (fun c70 => ?_) (fun c70 => ?_)
  · exact absurd c70 (by decide)
  refine zk_bipush (v := -6) hX dX11_two_73 (by decide) ?_
  refine zk_iret hX hE rfl ⟨rfl, rfl⟩ dX11_two_75 ⟨_, rfl, ?_⟩
  exact ⟨rfl, rfl⟩
theorem s_X11_two {G : zG} {w : zW} {D : zD} {k l z u v T : Nat} {M Y M' Y' : zS} (hw : zWf w) (hD : zDok D) (hH : cHd w 26 D) (hRe : cRe w D) (hN : zpr (zsp D) (dJ D) ≤ 4096) (hT9 : T ≤ 99) (hS : w.1 0 8 = nI T) (hL : zLm w 44 z u v) (ho : zlok z u v) (hk : k < 6) (hl : l < 6) (h : w.1 26 0 = 2) (ht : ¬ w.1 (96 + 3 * k) 3 = 0 ∧ ¬ w.1 (96 + 3 * l) 3 = 0) (hB : cBe w k M Y) (hB' : cBe w l M' Y') {α β γ δ : Int32}
    (hα : cO D 0 z u v T M Y = α) (hβ : cO D 1 z u v T M' Y' = β) (hγ : cO D 0 z u v T M' Y' = γ) (hδ : cO D 1 z u v T M Y = δ) :
    zCi G mX11_two [.ref 0, .int (nI k), .int (nI l)] w (fun a w' => a = zt2a α β γ δ ∧ zFr [1, 131, 134] [135, 136, 137, 138, 143, 144, 146] [] w w' ∧ (∀ i, i ≠ 0 → w'.1 1 i = w.1 1 i) ∧ w'.1 1 0 = zt2b α β γ δ (w.1 1 0) ∧ cRe w' D) := by
  have hc := hRe.2.2.2 hN
  have hs : w.1 131 0 = 0 := by rw [hRe.2.2.1, if_neg (by omega)]
  have pre : ∀ w1, zFr [1, 131, 134] [135, 136, 137, 138, 143, 144, 146] [] w w1 → zWf w1 ∧ cHd w1 26 D ∧ cOwn w1 D ∧ cBe w1 k M Y ∧ cBe w1 l M' Y' ∧ zLm w1 44 z u v ∧ w1.1 0 8 = nI T := fun w1 hF => ⟨zFr_wf hF hw, cHd_o hH (fun a h1 h2 => hF.2.1 a (by simp; omega) (by omega)), cOwn_g hRe.2.1 hF (by decide), ⟨zHas_o hB.1 (hF.2.2.1 _ (by simp; omega)), zHas_o hB.2 (hF.2.2.1 _ (by simp; omega))⟩, ⟨zHas_o hB'.1 (hF.2.2.1 _ (by simp; omega)), zHas_o hB'.2 (hF.2.2.1 _ (by simp; omega))⟩, by unfold zLm; rw [hF.2.1 44 (by decide) (by decide)]; exact hL, by rw [hF.2.1 0 (by decide) (by decide)]; exact hS⟩
  refine zC_of (lo := [_, _, _, _, _, _, _]) kcX11_two (Nat.le_of_ble_eq_true rfl) rfl (fun X hX hE => ?_)
  refine zk_iload_n hX dX11_two_0 rfl ?_
  refine zk_S1i hX dX11_two_1 kcX11_isBeast mlX11_272 smX11_isBeast rfl (s_X11_isBeast _) (Nat.le_of_ble_eq_true rfl) rfl ?_
  refine zk_if_eqB (tgt := 14) hX dX11_two_4 (by decide) (fun c4 => ?_) (fun c4 => ?_)
  · exact absurd c4 (not_not_intro (zrlt hk))
  refine zk_iload_n hX dX11_two_7 rfl ?_
  refine zk_S1i hX dX11_two_8 kcX11_isBeast mlX11_272 smX11_isBeast rfl (s_X11_isBeast _) (Nat.le_of_ble_eq_true rfl) rfl ?_
  refine zk_if_neB (tgt := 16) hX dX11_two_11 (by decide) (fun c11 => ?_) (fun c11 => ?_)
  rotate_left
  · exact absurd (zrlt hl) c11
  refine zk_aload_n hX dX11_two_16 rfl ?_
  refine zk_getR hX dX11_two_17 flX11_38 k_0 z_0 (hw _ _ (by decide) |>.trans r_0_4) ?_
  refine zk_getI hX dX11_two_20 flX11_389 k_26 z_26 ?_
  refine zk_iconst (v := 2) hX dX11_two_23 (by decide) ?_
  refine zk_icmp_eq (tgt := 30) hX dX11_two_24 (by decide) (fun c24 => ?_) (fun c24 => ?_)
  rotate_left
  · exact absurd h c24
  refine zk_aload_n hX dX11_two_30 rfl ?_
  refine zk_getR hX dX11_two_31 flX11_68 k_0 z_0 (hw _ _ (by decide) |>.trans r_0_11) ?_
  refine zk_iload_n hX dX11_two_34 rfl ?_
  refine zk_beasts hX hw dX11_two_35 rfl (by first | assumption | omega) ?_
  refine zk_getI hX dX11_two_36 flX11_284 (zBek (by first | assumption | omega)) (zBez _ (by first | assumption | omega)).1 ?_
  refine zk_if_eq (tgt := 54) hX dX11_two_39 (by decide) (fun c39 => ?_) (fun c39 => ?_)
  · exact absurd c39 ht.1
  refine zk_aload_n hX dX11_two_42 rfl ?_
  refine zk_getR hX dX11_two_43 flX11_68 k_0 z_0 (hw _ _ (by decide) |>.trans r_0_11) ?_
  refine zk_iload_n hX dX11_two_46 rfl ?_
  refine zk_beasts hX hw dX11_two_47 rfl (by first | assumption | omega) ?_
  refine zk_getI hX dX11_two_48 flX11_284 (zBek (by first | assumption | omega)) (zBez _ (by first | assumption | omega)).1 ?_
  refine zk_if_ne (tgt := 63) hX dX11_two_51 (by decide) (fun c51 => ?_) (fun c51 => ?_)
  rotate_left
  · exact absurd c51 ht.2
  refine zk_aload_n hX dX11_two_63 rfl ?_
  refine zk_getR hX dX11_two_64 flX11_83 k_0 z_0 (hw _ _ (by decide) |>.trans r_0_13) ?_
  refine zk_getI hX dX11_two_67 flX11_302 k_131 z_131 ?_
  rw [hs]
  refine zk_if_eq (tgt := 76) hX dX11_two_70 (by decide) (fun c70 => ?_) (fun c70 => ?_)
  rotate_left
  · exact absurd rfl c70
  refine zk_aload_n hX dX11_two_76 rfl ?_
  refine zk_getR hX dX11_two_77 flX11_83 k_0 z_0 (hw _ _ (by decide) |>.trans r_0_13) ?_
  refine zk_aload_n hX dX11_two_80 rfl ?_
  refine zk_getR hX dX11_two_81 flX11_38 k_0 z_0 (hw _ _ (by decide) |>.trans r_0_4) ?_
  refine zk_iconst (v := 0) hX dX11_two_84 (by decide) ?_
  refine zk_V2vp hX dX11_two_85 kcX6_combine mlX11_392 viX6_combine rfl k_131 z_131 (s_X6_combine hw hH hD hRe.2.1 hN 0) (Nat.le_of_ble_eq_true rfl) rfl (fun w1 q1 => ?_)
  have hF1 : zFr [1, 131, 134] [135, 136, 137, 138, 143, 144, 146] [] w w1 := zFr_s q1.1 (by decide)
  obtain ⟨a1, a2, a3, a4, a5, a6, a7⟩ := pre w1 hF1
  refine zk_aload_n hX dX11_two_88 rfl ?_
  refine zk_getR hX dX11_two_89 flX11_83 k_0 z_0 (a1 _ _ (by decide) |>.trans r_0_13) ?_
  refine zk_aload_n hX dX11_two_92 rfl ?_
  refine zk_getR hX dX11_two_93 flX11_38 k_0 z_0 (a1 _ _ (by decide) |>.trans r_0_4) ?_
  refine zk_aload_n hX dX11_two_96 rfl ?_
  refine zk_getR hX dX11_two_97 flX11_48 k_0 z_0 (a1 _ _ (by decide) |>.trans r_0_6) ?_
  refine zk_iconst (v := 0) hX dX11_two_100 (by decide) ?_
  refine zk_V3vp hX dX11_two_101 kcX6_shade mlX11_311 viX6_shade rfl k_131 z_131 (s_X6_shade a1 a2 hD a3 hN (Or.inl rfl) a6 ho 0) (Nat.le_of_ble_eq_true rfl) rfl (fun w2 q2 => ?_)
  have hF2 : zFr [1, 131, 134] [135, 136, 137, 138, 143, 144, 146] [] w w2 := zFr_t hF1 (zFr_s q2.1 (by decide))
  obtain ⟨b1, b2, b3, b4, b5, b6, b7⟩ := pre w2 hF2
  have tb : cTab w2 D 0 := cTab_f ⟨q1.2.2.1, q1.2.2.2, zN_le hD (Nat.le_refl _) hN⟩ q2.1 (by decide)
  have o1 := s_X6_cO (G := G) (T := T) b1 hD hT9 tb q2.2 hk b4 hα
  have o2 := s_X6_cO (G := G) (T := T) b1 hD hT9 tb q2.2 hl b5 hγ
  refine zk_aload_n hX dX11_two_104 rfl ?_
  refine zk_getR hX dX11_two_105 flX11_83 k_0 z_0 (b1 _ _ (by decide) |>.trans r_0_13) ?_
  refine zk_aload_n hX dX11_two_108 rfl ?_
  refine zk_getR hX dX11_two_109 flX11_38 k_0 z_0 (b1 _ _ (by decide) |>.trans r_0_4) ?_
  refine zk_aload_n hX dX11_two_112 rfl ?_
  refine zk_getR hX dX11_two_113 flX11_68 k_0 z_0 (b1 _ _ (by decide) |>.trans r_0_11) ?_
  refine zk_iload_n hX dX11_two_116 rfl ?_
  refine zk_beasts hX b1 dX11_two_117 rfl (by first | assumption | omega) ?_
  refine zk_aload_n hX dX11_two_118 rfl ?_
  refine zk_getI hX dX11_two_119 flX11_55 k_0 z_0 ?_
  rw [b7]
  refine zk_bipush (v := -9) hX dX11_two_122 (by decide) ?_
  refine zk_V4i hX dX11_two_124 kcX6_leastOff mlX11_396 viX6_leastOff rfl k_131 z_131 o1 (Nat.le_of_ble_eq_true rfl) rfl ?_
  refine zk_istore_n (lo' := [_, _, _, _, _, _, _]) hX dX11_two_127 (Nat.le_of_ble_eq_true rfl) rfl rfl ?_
  refine zk_aload_n hX dX11_two_128 rfl ?_
  refine zk_getR hX dX11_two_129 flX11_83 k_0 z_0 (b1 _ _ (by decide) |>.trans r_0_13) ?_
  refine zk_aload_n hX dX11_two_132 rfl ?_
  refine zk_getR hX dX11_two_133 flX11_38 k_0 z_0 (b1 _ _ (by decide) |>.trans r_0_4) ?_
  refine zk_aload_n hX dX11_two_136 rfl ?_
  refine zk_getR hX dX11_two_137 flX11_68 k_0 z_0 (b1 _ _ (by decide) |>.trans r_0_11) ?_
  refine zk_iload_n hX dX11_two_140 rfl ?_
  refine zk_beasts hX b1 dX11_two_141 rfl (by first | assumption | omega) ?_
  refine zk_aload_n hX dX11_two_142 rfl ?_
  refine zk_getI hX dX11_two_143 flX11_55 k_0 z_0 ?_
  rw [b7]
  refine zk_bipush (v := -9) hX dX11_two_146 (by decide) ?_
  refine zk_V4i hX dX11_two_148 kcX6_leastOff mlX11_396 viX6_leastOff rfl k_131 z_131 o2 (Nat.le_of_ble_eq_true rfl) rfl ?_
  refine zk_istore (lo' := [_, _, _, _, _, _, _]) hX dX11_two_151 (Nat.le_of_ble_eq_true rfl) rfl rfl ?_
  refine zk_aload_n hX dX11_two_153 rfl ?_
  refine zk_getR hX dX11_two_154 flX11_83 k_0 z_0 (b1 _ _ (by decide) |>.trans r_0_13) ?_
  refine zk_aload_n hX dX11_two_157 rfl ?_
  refine zk_getR hX dX11_two_158 flX11_38 k_0 z_0 (b1 _ _ (by decide) |>.trans r_0_4) ?_
  refine zk_iconst (v := 1) hX dX11_two_161 (by decide) ?_
  refine zk_V2vp hX dX11_two_162 kcX6_combine mlX11_392 viX6_combine rfl k_131 z_131 (s_X6_combine b1 b2 hD b3 hN 1) (Nat.le_of_ble_eq_true rfl) rfl (fun w3 q3 => ?_)
  have hF3 : zFr [1, 131, 134] [135, 136, 137, 138, 143, 144, 146] [] w w3 := zFr_t hF2 (zFr_s q3.1 (by decide))
  obtain ⟨d1, d2, d3, d4, d5, d6, d7⟩ := pre w3 hF3
  refine zk_aload_n hX dX11_two_165 rfl ?_
  refine zk_getR hX dX11_two_166 flX11_83 k_0 z_0 (d1 _ _ (by decide) |>.trans r_0_13) ?_
  refine zk_aload_n hX dX11_two_169 rfl ?_
  refine zk_getR hX dX11_two_170 flX11_38 k_0 z_0 (d1 _ _ (by decide) |>.trans r_0_4) ?_
  refine zk_aload_n hX dX11_two_173 rfl ?_
  refine zk_getR hX dX11_two_174 flX11_48 k_0 z_0 (d1 _ _ (by decide) |>.trans r_0_6) ?_
  refine zk_iconst (v := 1) hX dX11_two_177 (by decide) ?_
  refine zk_V3vp hX dX11_two_178 kcX6_shade mlX11_311 viX6_shade rfl k_131 z_131 (s_X6_shade d1 d2 hD d3 hN (Or.inl rfl) d6 ho 1) (Nat.le_of_ble_eq_true rfl) rfl (fun w4 q4 => ?_)
  have hF4 : zFr [1, 131, 134] [135, 136, 137, 138, 143, 144, 146] [] w w4 := zFr_t hF3 (zFr_s q4.1 (by decide))
  obtain ⟨e1, e2, e3, e4, e5, e6, e7⟩ := pre w4 hF4
  have te : cTab w4 D 1 := cTab_f ⟨q3.2.2.1, q3.2.2.2, zN_le hD (Nat.le_refl _) hN⟩ q4.1 (by decide)
  have o3 := s_X6_cO (G := G) (T := T) e1 hD hT9 te q4.2 hl e5 hβ
  have o4 := s_X6_cO (G := G) (T := T) e1 hD hT9 te q4.2 hk e4 hδ
  refine zk_aload_n hX dX11_two_181 rfl ?_
  refine zk_getR hX dX11_two_182 flX11_83 k_0 z_0 (e1 _ _ (by decide) |>.trans r_0_13) ?_
  refine zk_aload_n hX dX11_two_185 rfl ?_
  refine zk_getR hX dX11_two_186 flX11_38 k_0 z_0 (e1 _ _ (by decide) |>.trans r_0_4) ?_
  refine zk_aload_n hX dX11_two_189 rfl ?_
  refine zk_getR hX dX11_two_190 flX11_68 k_0 z_0 (e1 _ _ (by decide) |>.trans r_0_11) ?_
  refine zk_iload_n hX dX11_two_193 rfl ?_
  refine zk_beasts hX e1 dX11_two_194 rfl (by first | assumption | omega) ?_
  refine zk_aload_n hX dX11_two_195 rfl ?_
  refine zk_getI hX dX11_two_196 flX11_55 k_0 z_0 ?_
  rw [e7]
  refine zk_bipush (v := -9) hX dX11_two_199 (by decide) ?_
  refine zk_V4i hX dX11_two_201 kcX6_leastOff mlX11_396 viX6_leastOff rfl k_131 z_131 o3 (Nat.le_of_ble_eq_true rfl) rfl ?_
  refine zk_istore (lo' := [_, _, _, _, _, _, _]) hX dX11_two_204 (Nat.le_of_ble_eq_true rfl) rfl rfl ?_
  refine zk_aload_n hX dX11_two_206 rfl ?_
  refine zk_getR hX dX11_two_207 flX11_83 k_0 z_0 (e1 _ _ (by decide) |>.trans r_0_13) ?_
  refine zk_aload_n hX dX11_two_210 rfl ?_
  refine zk_getR hX dX11_two_211 flX11_38 k_0 z_0 (e1 _ _ (by decide) |>.trans r_0_4) ?_
  refine zk_aload_n hX dX11_two_214 rfl ?_
  refine zk_getR hX dX11_two_215 flX11_68 k_0 z_0 (e1 _ _ (by decide) |>.trans r_0_11) ?_
  refine zk_iload_n hX dX11_two_218 rfl ?_
  refine zk_beasts hX e1 dX11_two_219 rfl (by first | assumption | omega) ?_
  refine zk_aload_n hX dX11_two_220 rfl ?_
  refine zk_getI hX dX11_two_221 flX11_55 k_0 z_0 ?_
  rw [e7]
  refine zk_bipush (v := -9) hX dX11_two_224 (by decide) ?_
  refine zk_V4i hX dX11_two_226 kcX6_leastOff mlX11_396 viX6_leastOff rfl k_131 z_131 o4 (Nat.le_of_ble_eq_true rfl) rfl ?_
  refine zk_istore (lo' := [_, _, _, _, _, _, _]) hX dX11_two_229 (Nat.le_of_ble_eq_true rfl) rfl rfl ?_
  refine zk_aload_n hX dX11_two_231 rfl ?_
  refine zk_getR hX dX11_two_232 flX11_83 k_0 z_0 (e1 _ _ (by decide) |>.trans r_0_13) ?_
  refine zk_aload_n hX dX11_two_235 rfl ?_
  refine zk_getR hX dX11_two_236 flX11_38 k_0 z_0 (e1 _ _ (by decide) |>.trans r_0_4) ?_
  refine zk_iconst (v := -1) hX dX11_two_239 (by decide) ?_
  refine zk_V2vp hX dX11_two_240 kcX6_combine mlX11_392 viX6_combine rfl k_131 z_131 (s_X6_combine e1 e2 hD e3 hN (-1)) (Nat.le_of_ble_eq_true rfl) rfl (fun w5 q5 => ?_)
  have hF5 : zFr [1, 131, 134] [135, 136, 137, 138, 143, 144, 146] [] w w5 := zFr_t hF4 (zFr_s q5.1 (by decide))
  obtain ⟨f1, f2, f3, f4, f5, f6, f7⟩ := pre w5 hF5
  have g0 : w5.1 131 0 = w.1 131 0 := (by rw [q5.2.1 0 (by decide), q4.1.2.1 131 (by decide) (by decide), q3.2.1 0 (by decide), q2.1.2.1 131 (by decide) (by decide), q1.2.1 0 (by decide)])
  have gR : cRe w5 D := ⟨fun j hj => (by rw [hF5.2.1 132 (by decide) (by decide), hF5.2.1 133 (by decide) (by decide)]; exact hRe.1 j hj), f3, (by rw [g0]; exact hRe.2.2.1), fun _ => ⟨q5.2.2.1, q5.2.2.2⟩⟩
  have g1 : w5.1 1 = w.1 1 := (by rw [q5.1.2.1 1 (by decide) (by decide), q4.1.2.1 1 (by decide) (by decide), q3.1.2.1 1 (by decide) (by decide), q2.1.2.1 1 (by decide) (by decide), q1.1.2.1 1 (by decide) (by decide)])
  refine zk_iload_n hX dX11_two_243 rfl ?_
  refine zk_bipush (v := -9) hX dX11_two_244 (by decide) ?_
  refine zk_icmp_eq (tgt := 256) hX dX11_two_246 (by decide) (fun c246 => ?_) (fun c246 => ?_)
  · refine zk_bipush (v := -9) hX dX11_two_256 (by decide) ?_
    refine zk_iret hX hE rfl ⟨rfl, rfl⟩ dX11_two_258 ⟨_, rfl, ?_⟩
    refine ⟨?_, hF5, fun i _ => by rw [g1], ?_, gR⟩
    · unfold zt2a
      rw [if_pos (by first | exact Or.inl c246 | exact Or.inl (Decidable.not_not.mp c246) | exact Or.inr c253 | exact Or.inr (Decidable.not_not.mp c253))]
    · unfold zt2b
      rw [if_pos (by first | exact Or.inl c246 | exact Or.inl (Decidable.not_not.mp c246) | exact Or.inr c253 | exact Or.inr (Decidable.not_not.mp c253)), g1]
  · refine zk_iload hX dX11_two_249 rfl ?_
    refine zk_bipush (v := -9) hX dX11_two_251 (by decide) ?_
    refine zk_icmp_ne (tgt := 259) hX dX11_two_253 (by decide) (fun c253 => ?_) (fun c253 => ?_)
    · refine zk_iload_n hX dX11_two_259 rfl ?_
      refine zk_iload hX dX11_two_260 rfl ?_
      refine zk_iadd hX dX11_two_262 ?_
      refine zk_istore_n (lo' := [_, _, _, _, _, _, _]) hX dX11_two_263 (Nat.le_of_ble_eq_true rfl) rfl rfl ?_
      refine zk_iload hX dX11_two_264 rfl ?_
      refine zk_iload hX dX11_two_266 rfl ?_
      refine zk_iadd hX dX11_two_268 ?_
      refine zk_istore (lo' := [_, _, _, _, _, _, _]) hX dX11_two_269 (Nat.le_of_ble_eq_true rfl) rfl rfl ?_
      refine zk_aload_n hX dX11_two_271 rfl ?_
      refine zk_getR hX dX11_two_272 flX11_12 k_0 z_0 (f1 _ _ (by decide) |>.trans r_0_0) ?_
      refine zk_iload_n hX dX11_two_275 rfl ?_
      refine zk_iload hX dX11_two_276 rfl ?_
      refine zk_mmin hX dX11_two_278 mlX11_399 ⟨rfl, rfl⟩ ?_
      refine zk_V1i hX dX11_two_281 kcX9_tell mlX11_132 viX9_tell rfl k_1 z_1 (s_X9_tell _) (Nat.le_of_ble_eq_true rfl) rfl ?_
      refine zk_pop hX dX11_two_284 rfl ?_
      refine zk_iload_n hX dX11_two_285 rfl ?_
      refine zk_iload hX dX11_two_286 rfl ?_
      refine zk_icmp_gt (tgt := 295) hX dX11_two_288 (by decide) (fun c288 => ?_) (fun c288 => ?_)
      · refine zk_iconst (v := 1) hX dX11_two_295 (by decide) ?_
        refine zk_iret hX hE rfl ⟨rfl, rfl⟩ dX11_two_296 ⟨_, rfl, ?_⟩
        have hno : ¬ (α = -9 ∨ β = -9) := fun q => q.elim c246 (by first | exact c253 | exact fun q => c253 q)
        refine ⟨?_, zFr_t hF5 (zFr_i (by decide) (by decide)), fun i hi => by rw [zsi_1, if_neg (fun q => hi q.2), g1], ?_, cRe_f gR (zFr_i (A := [1]) (B := []) (F := []) (by decide) (by decide)).2 (by decide)⟩
        · unfold zt2a
          rw [if_neg hno]
          first
            | rw [if_pos (by first | exact c288 | exact Int32.not_lt.mp c288)]
            | rw [if_neg (by first | exact c288 | exact Int32.not_le.mpr c288)]
        · unfold zt2b
          rw [if_neg hno, zsi_1, if_pos ⟨rfl, rfl⟩]
          by_cases q : α + β ≤ γ + δ
          · rw [if_pos q, if_neg (Int32.not_lt.mpr q)]
          · rw [if_neg q, if_pos (Int32.not_le.mp q)]
      · refine zk_iconst (v := 0) hX dX11_two_291 (by decide) ?_
        refine zk_goto (tgt := 296) hX dX11_two_292 (by decide) ?_
        refine zk_iret hX hE rfl ⟨rfl, rfl⟩ dX11_two_296 ⟨_, rfl, ?_⟩
        have hno : ¬ (α = -9 ∨ β = -9) := fun q => q.elim c246 (by first | exact c253 | exact fun q => c253 q)
        refine ⟨?_, zFr_t hF5 (zFr_i (by decide) (by decide)), fun i hi => by rw [zsi_1, if_neg (fun q => hi q.2), g1], ?_, cRe_f gR (zFr_i (A := [1]) (B := []) (F := []) (by decide) (by decide)).2 (by decide)⟩
        · unfold zt2a
          rw [if_neg hno]
          first
            | rw [if_pos (by first | exact c288 | exact Int32.not_lt.mp c288)]
            | rw [if_neg (by first | exact c288 | exact Int32.not_le.mpr c288)]
        · unfold zt2b
          rw [if_neg hno, zsi_1, if_pos ⟨rfl, rfl⟩]
          by_cases q : α + β ≤ γ + δ
          · rw [if_pos q, if_neg (Int32.not_lt.mpr q)]
          · rw [if_neg q, if_pos (Int32.not_le.mp q)]
    · refine zk_bipush (v := -9) hX dX11_two_256 (by decide) ?_
      refine zk_iret hX hE rfl ⟨rfl, rfl⟩ dX11_two_258 ⟨_, rfl, ?_⟩
      refine ⟨?_, hF5, fun i _ => by rw [g1], ?_, gR⟩
      · unfold zt2a
        rw [if_pos (by first | exact Or.inl c246 | exact Or.inl (Decidable.not_not.mp c246) | exact Or.inr c253 | exact Or.inr (Decidable.not_not.mp c253))]
      · unfold zt2b
        rw [if_pos (by first | exact Or.inl c246 | exact Or.inl (Decidable.not_not.mp c246) | exact Or.inr c253 | exact Or.inr (Decidable.not_not.mp c253)), g1]
