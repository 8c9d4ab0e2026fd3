theorem zrt_code {D : zD} (hD : zDok D) {i : Nat} : zrt D (-1) (dF D) i = zcode_t D i := by
  unfold zrt
  rw [hD.2.2.2.1, show zso D (-1) = zsp D from funext (fun _ => zso_m)]
theorem rL_code {D : zD} (hD : zDok D) {i : Nat} : rL D (-1) (dF D) i = zP D (zcode_t D i) (-1) := by
  unfold rL
  rw [zrt_code hD]
  rfl
theorem rA_code {D : zD} (hD : zDok D) {i : Nat} : rA D (-1) (dF D) i = zldo D (zcode_t D i) (-1) (dJ D) := by
  unfold rA
  rw [zrt_code hD, hD.2.2.2.1]
theorem zN_code {D : zD} (hD : zDok D) : zN_ D (-1) (dF D) = zpr (zsp D) (dJ D) := by
  unfold zN_
  rw [hD.2.2.2.1, show zso D (-1) = zsp D from funext (fun _ => zso_m)]
theorem zkd_1 {D : zD} {t : Nat → Int32} {o : Int32} {T : Nat} : zkd D t o T = 1 ↔ (zwrL zno (zP D t o) = 0 ∧ zldo D t o (dJ D) ≤ T) := by
  unfold zkd
  by_cases h : 0 < zwrL zno (zP D t o)
  · rw [if_pos h]
    exact ⟨fun q => absurd q (by decide), fun q => by omega⟩
  · rw [if_neg h]
    by_cases h2 : T < zldo D t o (dJ D)
    · rw [if_pos h2]
      exact ⟨fun q => absurd q (by decide), fun q => by omega⟩
    · rw [if_neg h2]
      exact ⟨fun _ => by omega, fun _ => rfl⟩
theorem zkd_2 {D : zD} {t : Nat → Int32} {o : Int32} {T : Nat} : zkd D t o T = 2 ↔ (zwrL zno (zP D t o) = 0 ∧ T < zldo D t o (dJ D)) := by
  unfold zkd
  by_cases h : 0 < zwrL zno (zP D t o)
  · rw [if_pos h]
    exact ⟨fun q => absurd q (by decide), fun q => by omega⟩
  · rw [if_neg h]
    by_cases h2 : T < zldo D t o (dJ D)
    · rw [if_pos h2]
      exact ⟨fun _ => by omega, fun _ => rfl⟩
    · rw [if_neg h2]
      exact ⟨fun q => absurd q (by decide), fun q => by omega⟩
/-- the model's: held, what is thrown, OFF, of a number -/
def mQ (D : zD) (o : Int32) (T i : Nat) : Bool := decide (zkd D (zcode_t D i) o T = 1)
def mS (D : zD) (o : Int32) (z u v i : Nat) : zS := zthr z u v (zdkL zno (zP D (zcode_t D i) o))
def mF (D : zD) (o : Int32) (z u v : Nat) (M Y : zS) (i : Nat) : Nat := zofB M Y (mS D o z u v i)
theorem mQ_t {D : zD} {o : Int32} {T i : Nat} : mQ D o T i = true ↔ zkd D (zcode_t D i) o T = 1 := by unfold mQ; rw [decide_eq_true_eq]
theorem rH_code {D : zD} (hD : zDok D) {T i : Nat} (hi : i < zpr (zsp D) (dJ D)) : rH D (-1) T i = mQ D (-1) T i := by
  unfold rH mQ
  rw [decide_eq_decide, zkd_1, rL_code hD, rA_code hD, zN_code hD]
  exact ⟨fun q => q.2, fun q => ⟨hi, q⟩⟩
theorem rO_code {D : zD} (hD : zDok D) {z u v : Nat} {M Y : zS} {i : Nat} : rO D (-1) z u v M Y i = mF D (-1) z u v M Y i := by
  unfold rO mF mS
  rw [rL_code hD]
theorem mF_le {D : zD} {o : Int32} {z u v : Nat} {M Y : zS} {i : Nat} : mF D o z u v M Y i ≤ 240 := zofB_le _ _ _
theorem s_X12_leastOff {G : zG} {w : zW} {D : zD} {T k z u v : Nat} {M Y : zS} {o st : Int32} {P : Nat → Bool} (hw : zWf w) (hM : mHd w D) (hD : zDok D) (hS : w.1 166 24 = nI T) (hT9 : T ≤ 99) (hN : zpr (zsp D) (dJ D) ≤ 4096) (hk : k < 6) (hB : mBe w k M Y) (hl : mLm w z u v) (ho : zlok z u v) (hh : o = -1 ∨ 0 ≤ o)
    (hst : (st = -9 ∧ P = mQ D o T) ∨ ∃ j, j < dJ D ∧ st = nI j ∧ P = fun i => mQ D o T i && decide (zcode_t D i j = 0)) :
    zCi G mX12_leastOff [.ref 166, .int (nI k), .int o, .int st] w (fun r w' => r = zoe ((zbst P (mF D o z u v M Y) (zpr (zsp D) (dJ D))).map (mF D o z u v M Y)) ∧ zFr [179, 180, 181, 182] [] [29, 41] w w' ∧ ∀ b, zbst P (mF D o z u v M Y) (zpr (zsp D) (dJ D)) = some b → w'.1 166 41 = nI b) := by
  have h6 := hD.1.2.2
  generalize eN : zpr (zsp D) (dJ D) = N at *
  refine zC_of (lo := [_, _, _, _, _, _, _, _]) kcX12_leastOff (Nat.le_of_ble_eq_true rfl) rfl (fun X hX hE => ?_)
  have loop : ∀ m i w1 (a : Value), i + m = N → zFr [179, 180, 181, 182] [] [29, 41] w w1 → (∀ b, zbst P (mF D o z u v M Y) i = some b → w1.1 166 41 = nI b) → zk0 G X mX12_leastOff 13 [.ref 166, .int (nI k), .int o, .int st, .int (zoe ((zbst P (mF D o z u v M Y) i).map (mF D o z u v M Y))), .int (nI N), .int (nI i), a] [] w1 := by
    intro m
    induction m with
    | zero =>
      intro i w1 a hi hF g
      obtain rfl : i = N := by omega
      refine zk_iload hX dX12_leastOff_13 rfl ?_
      refine zk_iload hX dX12_leastOff_15 rfl ?_
      refine zk_icmp_ge (tgt := 86) hX dX12_leastOff_17 (by decide) (fun c17 => ?_) (fun c17 => ?_)
      rotate_left
      · exact absurd (nI_le (Nat.le_refl _) (by omega)) c17
      refine zk_iload hX dX12_leastOff_86 rfl ?_
      refine zk_iret hX hE rfl ⟨rfl, rfl⟩ dX12_leastOff_88 ⟨_, rfl, ?_⟩
      exact ⟨rfl, hF, g⟩
    | succ m ih =>
      intro i w1 a hi hF g
      have hw1 := zFr_wf hF hw
      have hM1 := mHd_f hM hF (by decide)
      have e24 := (hF.2.2.2 24 (by decide)).trans hS
      have k80n : ∀ w2, zFr [179, 180, 181, 182] [] [29, 41] w w2 → w2.1 166 41 = w1.1 166 41 → ¬ P i = true → ∀ a, zk0 G X mX12_leastOff 80 [.ref 166, .int (nI k), .int o, .int st, .int (zoe ((zbst P (mF D o z u v M Y) i).map (mF D o z u v M Y))), .int (nI N), .int (nI i), a] [] w2 := by
        intro w2 h2 e41 hp a
        have h0 := ih (i + 1) w2 a (by omega) h2 (fun b hb => by rw [zbst_f hp] at hb; rw [e41]; exact g b hb)
        rw [zbst_f hp] at h0
        refine zk_iinc (lo' := [_, _, _, _, _, _, _, _]) hX dX12_leastOff_80 rfl (by first | exact zinc _ | exact rfl) (Nat.le_of_ble_eq_true rfl) rfl rfl ?_
        refine zk_goto (tgt := 13) hX dX12_leastOff_83 (by decide) ?_
        exact h0
      have k45 : ∀ w2, zFr [179, 180, 181] [] [29] w1 w2 → zPts w2 (zP D (zcode_t D i) o) → P i = true → zk0 G X mX12_leastOff 45 [.ref 166, .int (nI k), .int o, .int st, .int (zoe ((zbst P (mF D o z u v M Y) i).map (mF D o z u v M Y))), .int (nI N), .int (nI i), a] [] w2 := by
        intro w2 h2 hp2 hp
        have hw2 := zFr_wf h2 hw1
        have hF2 : zFr [179, 180, 181, 182] [] [29, 41] w w2 := zFr_t hF (zFr_s h2 (by decide))
        have cl := s_X12_layThrown (G := G) hw2 hp2 (zP_len hD _ _) (mLm_o hl ⟨hF2.2.2.2 25 (by decide), hF2.2.2.2 26 (by decide), hF2.2.2.2 27 (by decide)⟩) ho
        have l1 := mF_le (D := D) (o := o) (z := z) (u := u) (v := v) (M := M) (Y := Y) (i := i)
        have keep : ∀ w3, zFr [182] [] [] w2 w3 → ∀ b, zbst P (mF D o z u v M Y) i = some b → ¬ mF D o z u v M Y i < mF D o z u v M Y b → zk0 G X mX12_leastOff 80 [.ref 166, .int (nI k), .int o, .int st, .int (nI (mF D o z u v M Y b)), .int (nI N), .int (nI i), .int (nI (mF D o z u v M Y i))] [] w3 := by
          intro w3 h3 b hb hlt
          have e := zbst_s hp hb
          rw [if_neg hlt] at e
          have h0 := fun a => ih (i + 1) w3 a (by omega) (zFr_t hF2 (zFr_s h3 (by decide))) (fun b' hb' => by
            rw [e] at hb'
            rw [h3.2.2.2 41 (by decide), h2.2.2.2 41 (by decide)]
            exact g b' (hb.trans hb'))
          rw [e] at h0
          refine zk_iinc (lo' := [_, _, _, _, _, _, _, _]) hX dX12_leastOff_80 rfl (by first | exact zinc _ | exact rfl) (Nat.le_of_ble_eq_true rfl) rfl rfl ?_
          refine zk_goto (tgt := 13) hX dX12_leastOff_83 (by decide) ?_
          exact h0 _
        have newb : ∀ w3, zFr [182] [] [] w2 w3 → zbst P (mF D o z u v M Y) (i + 1) = some i → ∀ x : Int32, zk0 G X mX12_leastOff 70 [.ref 166, .int (nI k), .int o, .int st, .int x, .int (nI N), .int (nI i), .int (nI (mF D o z u v M Y i))] [] w3 := by
          intro w3 h3 e x
          have h0 := fun a => ih (i + 1) (zsi w3 166 41 (nI i)) a (by omega) (zFr_t (zFr_t hF2 (zFr_s h3 (by decide))) (zFr_m (by decide))) (fun b' hb' => by
            rw [e] at hb'
            cases hb'
            rw [zsi_1, if_pos ⟨rfl, rfl⟩])
          rw [e] at h0
          refine zk_iload hX dX12_leastOff_70 rfl ?_
          refine zk_istore (lo' := [_, _, _, _, _, _, _, _]) hX dX12_leastOff_72 (Nat.le_of_ble_eq_true rfl) rfl rfl ?_
          refine zk_aload_n hX dX12_leastOff_74 rfl ?_
          refine zk_iload hX dX12_leastOff_75 rfl ?_
          refine zk_putI hX dX12_leastOff_77 plX12_335 (fun h => by cases h) k_166 z_166 rfl rfl ?_
          refine zk_iinc (lo' := [_, _, _, _, _, _, _, _]) hX dX12_leastOff_80 rfl (by first | exact zinc _ | exact rfl) (Nat.le_of_ble_eq_true rfl) rfl rfl ?_
          refine zk_goto (tgt := 13) hX dX12_leastOff_83 (by decide) ?_
          exact h0 _
        rcases zbst_ok P (mF D o z u v M Y) i with ⟨e, _⟩ | ⟨b, e, hb, _, _⟩
        · rw [e]
          refine zk_aload_n hX dX12_leastOff_45 rfl ?_
          refine zk_V0vp hX dX12_leastOff_46 kcX12_layThrown mlX12_311 viX12_layThrown rfl k_166 z_166 cl (Nat.le_of_ble_eq_true rfl) rfl (fun w3 q3 => ?_)
          have hw3 := zFr_wf q3.1 hw2
          refine zk_aload_n hX dX12_leastOff_49 rfl ?_
          refine zk_iload_n hX dX12_leastOff_50 rfl ?_
          refine zk_V1i hX dX12_leastOff_51 kcX12_offBy mlX12_326 viX12_offBy rfl k_166 z_166 (s_X12_offBy hw3 hk (mBe_o hB ⟨by rw [q3.1.2.1 187 (by decide) (by decide)]; exact hF2.2.1 187 (by decide) (by decide), by rw [q3.1.2.1 188 (by decide) (by decide)]; exact hF2.2.1 188 (by decide) (by decide)⟩) q3.2) (Nat.le_of_ble_eq_true rfl) rfl ?_
          refine zk_istore (lo' := [_, _, _, _, _, _, _, _]) hX dX12_leastOff_54 (Nat.le_of_ble_eq_true rfl) rfl rfl ?_
          refine zk_iload hX dX12_leastOff_56 rfl ?_
          refine zk_bipush (v := -9) hX dX12_leastOff_58 (by decide) ?_
          refine zk_icmp_eq (tgt := 70) hX dX12_leastOff_60 (by decide) (fun c60 => ?_) (fun c60 => ?_)
          rotate_left
          · exact absurd (show zoe (Option.map (mF D o z u v M Y) none) = -9 from rfl) c60
          exact newb w3 q3.1 (zbst_n hp e) _
        · rw [e]
          have l2 := mF_le (D := D) (o := o) (z := z) (u := u) (v := v) (M := M) (Y := Y) (i := b)
          refine zk_aload_n hX dX12_leastOff_45 rfl ?_
          refine zk_V0vp hX dX12_leastOff_46 kcX12_layThrown mlX12_311 viX12_layThrown rfl k_166 z_166 cl (Nat.le_of_ble_eq_true rfl) rfl (fun w3 q3 => ?_)
          have hw3 := zFr_wf q3.1 hw2
          refine zk_aload_n hX dX12_leastOff_49 rfl ?_
          refine zk_iload_n hX dX12_leastOff_50 rfl ?_
          refine zk_V1i hX dX12_leastOff_51 kcX12_offBy mlX12_326 viX12_offBy rfl k_166 z_166 (s_X12_offBy hw3 hk (mBe_o hB ⟨by rw [q3.1.2.1 187 (by decide) (by decide)]; exact hF2.2.1 187 (by decide) (by decide), by rw [q3.1.2.1 188 (by decide) (by decide)]; exact hF2.2.1 188 (by decide) (by decide)⟩) q3.2) (Nat.le_of_ble_eq_true rfl) rfl ?_
          refine zk_istore (lo' := [_, _, _, _, _, _, _, _]) hX dX12_leastOff_54 (Nat.le_of_ble_eq_true rfl) rfl rfl ?_
          refine zk_iload hX dX12_leastOff_56 rfl ?_
          refine zk_bipush (v := -9) hX dX12_leastOff_58 (by decide) ?_
          refine zk_icmp_eq (tgt := 70) hX dX12_leastOff_60 (by decide) (fun c60 => ?_) (fun c60 => ?_)
          · exact absurd c60 (nI_n9 (b := mF D o z u v M Y b) (by omega))
          refine zk_iload hX dX12_leastOff_63 rfl ?_
          refine zk_iload hX dX12_leastOff_65 rfl ?_
          refine zk_icmp_ge (tgt := 80) hX dX12_leastOff_67 (by decide) (fun c67 => ?_) (fun c67 => ?_)
          · exact keep w3 q3.1 b e (Nat.not_lt.mpr (nI_leD (a := mF D o z u v M Y b) (y := mF D o z u v M Y i) c67))
          · exact newb w3 q3.1 (by rw [zbst_s hp e, if_pos (nI_ltD (a := mF D o z u v M Y b) (y := mF D o z u v M Y i) c67)]) _
      rcases hst with ⟨rfl, rfl⟩ | ⟨j, hj, rfl, rfl⟩
      · refine zk_iload hX dX12_leastOff_13 rfl ?_
        refine zk_iload hX dX12_leastOff_15 rfl ?_
        refine zk_icmp_ge (tgt := 86) hX dX12_leastOff_17 (by decide) (fun c17 => ?_) (fun c17 => ?_)
        · exact absurd c17 (nI_ge (by omega) (by omega))
        refine zk_aload_n hX dX12_leastOff_20 rfl ?_
        refine zk_iload hX dX12_leastOff_21 rfl ?_
        refine zk_iload_n hX dX12_leastOff_23 rfl ?_
        refine zk_V2ip hX dX12_leastOff_24 kcX12_isHeld mlX12_332 viX12_isHeld rfl k_166 z_166 (s_X12_isHeld hw1 hM1 hD hh e24 hT9 (by omega)) (Nat.le_of_ble_eq_true rfl) rfl (fun r w2 q2 => ?_)
        obtain ⟨rfl, a1, a2, a3⟩ := q2
        refine zk_if_eqB (tgt := 80) hX dX12_leastOff_27 (by decide) (fun c27 => ?_) (fun c27 => ?_)
        · exact k80n w2 (zFr_t hF (zFr_s a1 (by decide))) (a1.2.2.2 41 (by decide)) (fun z => c27 (mQ_t.mp z)) _
        · refine zk_iload_n hX dX12_leastOff_30 rfl ?_
          refine zk_bipush (v := -9) hX dX12_leastOff_31 (by decide) ?_
          refine zk_icmp_eq (tgt := 45) hX dX12_leastOff_33 (by decide) (fun c33 => ?_) (fun c33 => ?_)
          rotate_left
          · exact absurd rfl c33
          exact k45 w2 a1 a3 (mQ_t.mpr (by first | exact c27 | exact Decidable.not_not.mp c27))
      · refine zk_iload hX dX12_leastOff_13 rfl ?_
        refine zk_iload hX dX12_leastOff_15 rfl ?_
        refine zk_icmp_ge (tgt := 86) hX dX12_leastOff_17 (by decide) (fun c17 => ?_) (fun c17 => ?_)
        · exact absurd c17 (nI_ge (by omega) (by omega))
        refine zk_aload_n hX dX12_leastOff_20 rfl ?_
        refine zk_iload hX dX12_leastOff_21 rfl ?_
        refine zk_iload_n hX dX12_leastOff_23 rfl ?_
        refine zk_V2ip hX dX12_leastOff_24 kcX12_isHeld mlX12_332 viX12_isHeld rfl k_166 z_166 (s_X12_isHeld hw1 hM1 hD hh e24 hT9 (by omega)) (Nat.le_of_ble_eq_true rfl) rfl (fun r w2 q2 => ?_)
        obtain ⟨rfl, a1, a2, a3⟩ := q2
        have hw2 := zFr_wf a1 hw1
        refine zk_if_eqB (tgt := 80) hX dX12_leastOff_27 (by decide) (fun c27 => ?_) (fun c27 => ?_)
        · refine k80n w2 (zFr_t hF (zFr_s a1 (by decide))) (a1.2.2.2 41 (by decide)) (fun z => ?_) _
          rw [Bool.and_eq_true, decide_eq_true_eq] at z
          first
            | exact c27 (mQ_t.mp z.1)
            | exact c42 z.2
        · refine zk_iload_n hX dX12_leastOff_30 rfl ?_
          refine zk_bipush (v := -9) hX dX12_leastOff_31 (by decide) ?_
          refine zk_icmp_eq (tgt := 45) hX dX12_leastOff_33 (by decide) (fun c33 => ?_) (fun c33 => ?_)
          · exact absurd c33 (nI_n9 (by omega))
          refine zk_aload_n hX dX12_leastOff_36 rfl ?_
          refine zk_getR hX dX12_leastOff_37 flX12_47 k_166 z_166 (hw2 _ _ (by decide) |>.trans r_166_28) ?_
          refine zk_iload_n hX dX12_leastOff_40 rfl ?_
          refine zk_ialdE hX dX12_leastOff_41 rfl k_179 z_179 (by first | assumption | omega) rfl ?_
          rw [a2 j hj]
          refine zk_if_ne (tgt := 80) hX dX12_leastOff_42 (by decide) (fun c42 => ?_) (fun c42 => ?_)
          · refine k80n w2 (zFr_t hF (zFr_s a1 (by decide))) (a1.2.2.2 41 (by decide)) (fun z => ?_) _
            rw [Bool.and_eq_true, decide_eq_true_eq] at z
            first
              | exact c27 (mQ_t.mp z.1)
              | exact c42 z.2
          · refine k45 w2 a1 a3 ?_
            rw [Bool.and_eq_true, decide_eq_true_eq]
            exact ⟨mQ_t.mpr (by first | exact c27 | exact Decidable.not_not.mp c27), by first | exact c42 | exact Decidable.not_not.mp c42⟩
  have cT := s_X12_turnsMany (G := G) hw hM hD
  rw [eN] at cT
  refine zk_bipush (v := -9) hX dX12_leastOff_0 (by decide) ?_
  refine zk_istore (lo' := [_, _, _, _, _, _, _, _]) hX dX12_leastOff_2 (Nat.le_of_ble_eq_true rfl) rfl rfl ?_
  refine zk_aload_n hX dX12_leastOff_4 rfl ?_
  refine zk_V0i hX dX12_leastOff_5 kcX12_turnsMany mlX12_329 viX12_turnsMany rfl k_166 z_166 cT (Nat.le_of_ble_eq_true rfl) rfl ?_
  refine zk_istore (lo' := [_, _, _, _, _, _, _, _]) hX dX12_leastOff_8 (Nat.le_of_ble_eq_true rfl) rfl rfl ?_
  refine zk_iconst (v := 0) hX dX12_leastOff_10 (by decide) ?_
  refine zk_istore (lo' := [_, _, _, _, _, _, _, _]) hX dX12_leastOff_11 (Nat.le_of_ble_eq_true rfl) rfl rfl ?_
  exact loop N 0 w _ (by omega) zFr_r (fun b hb => by cases hb)
