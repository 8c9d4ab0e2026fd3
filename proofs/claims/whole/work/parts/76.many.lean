/-! how many turns hold -/
def mSt (D : zD) (T i : Nat) : Bool := decide (zkd D (zcode_t D i) (-1) T = 2)
theorem mQ_1 {D : zD} {T i : Nat} : mQ D (-1) T i = decide (zkd D (zcode_t D i) (-1) T = 1) := rfl
theorem s_X11_many_s {G : zG} {w : zW} (hw : zWf w) (h : w.1 131 0 = 1) : zEi G mX11_many [.ref 0] w (-6) w := by
  refine zC_of (lo := [_, _, _, _]) kcX11_many (Nat.le_of_ble_eq_true rfl) rfl (fun X hX hE => ?_)
  refine zk_aload_n hX dX11_many_0 rfl ?_
  refine zk_getR hX dX11_many_1 flX11_83 k_0 z_0 (hw _ _ (by decide) |>.trans r_0_13) ?_
  refine zk_getI hX dX11_many_4 flX11_302 k_131 z_131 ?_
  rw [h]
  refine zk_if_eq (tgt := 13) hX dX11_many_7 (by decide) (fun c7 => ?_) (fun c7 => ?_)
  · exact absurd c7 (by decide)
  refine zk_bipush (v := -6) hX dX11_many_10 (by decide) ?_
  refine zk_iret hX hE rfl ⟨rfl, rfl⟩ dX11_many_12 ⟨_, rfl, ?_⟩
  exact ⟨rfl, rfl⟩
theorem s_X11_many {G : zG} {w : zW} {D : zD} {T : Nat} (hw : zWf w) (hD : zDok D) (h : w.1 131 0 = 0) (hT : cTab w D (-1)) (hT9 : T ≤ 99) (hS : w.1 0 8 = nI T) :
    zEi G mX11_many [.ref 0] w (nI (zcnt (mQ D (-1) T) (zpr (zsp D) (dJ D)))) (zsi w 1 0 (nI (zcnt (mSt D T) (zpr (zsp D) (dJ D))))) := by
  have hN : zpr (zsp D) (dJ D) ≤ 4096 := by rw [← zN_code hD]; exact hT.2.2
  have e1 : w.1 131 1 = nI (zpr (zsp D) (dJ D)) := by rw [← zN_code hD]; exact hT.1
  refine zC_of (lo := [_, _, _, _]) kcX11_many (Nat.le_of_ble_eq_true rfl) rfl (fun X hX hE => ?_)
  have loop : ∀ z i, i + z = zpr (zsp D) (dJ D) → zk0 G X mX11_many 19 [.ref 0, .int (nI (zcnt (mQ D (-1) T) i)), .int (nI (zcnt (mSt D T) i)), .int (nI i)] [] w := by
    intro z
    induction z with
    | zero =>
      intro i hi
      obtain rfl : i = zpr (zsp D) (dJ D) := by omega
      refine zk_iload_n hX dX11_many_19 rfl ?_
      refine zk_aload_n hX dX11_many_20 rfl ?_
      refine zk_getR hX dX11_many_21 flX11_83 k_0 z_0 (hw _ _ (by decide) |>.trans r_0_13) ?_
      refine zk_getI hX dX11_many_24 flX11_305 k_131 z_131 ?_
      rw [e1]
      refine zk_icmp_ge (tgt := 71) hX dX11_many_27 (by decide) (fun c27 => ?_) (fun c27 => ?_)
      rotate_left
      · exact absurd (nI_le (Nat.le_refl _) (by omega)) c27
      refine zk_aload_n hX dX11_many_71 rfl ?_
      refine zk_getR hX dX11_many_72 flX11_12 k_0 z_0 (hw _ _ (by decide) |>.trans r_0_0) ?_
      refine zk_iload_n hX dX11_many_75 rfl ?_
      refine zk_V1i hX dX11_many_76 kcX9_tell mlX11_132 viX9_tell rfl k_1 z_1 (s_X9_tell _) (Nat.le_of_ble_eq_true rfl) rfl ?_
      refine zk_pop hX dX11_many_79 rfl ?_
      refine zk_iload_n hX dX11_many_80 rfl ?_
      refine zk_iret hX hE rfl ⟨rfl, rfl⟩ dX11_many_81 ⟨_, rfl, ?_⟩
      exact ⟨rfl, rfl⟩
    | succ z ih =>
      intro i hi
      have h0 := ih (i + 1) (by omega)
      have hi2 : i < zpr (zsp D) (dJ D) := by omega
      have eH : rH D (-1) T i = mQ D (-1) T i := rH_code hD hi2
      have eB : (i < zN_ D (-1) (dF D) ∧ zwrL zno (rL D (-1) (dF D) i) = 0) ↔ zwrL zno (zP D (zcode_t D i) (-1)) = 0 := by
        rw [rL_code hD, zN_code hD]
        exact ⟨fun q => q.2, fun q => ⟨hi2, q⟩⟩
      have cb := s_X6_isBarred (G := G) (i := i) hw hD hT (by omega)
      have ch := s_X6_isHeld (G := G) (i := i) hw hD hT hT9 (by omega)
      rw [eH] at ch
      have k1 : mQ D (-1) T i = true → mSt D T i = false := fun q => decide_eq_false (fun q2 => by rw [of_decide_eq_true q] at q2; exact absurd q2 (by decide))
      have k2 : ¬ mQ D (-1) T i = true → zwrL zno (zP D (zcode_t D i) (-1)) = 0 → mSt D T i = true := fun q q2 => decide_eq_true (by
        have q : ¬ zkd D (zcode_t D i) (-1) T = 1 := fun z => q (decide_eq_true z)
        unfold zkd at q ⊢
        rw [if_neg (by omega)] at q ⊢
        by_cases g : T < zldo D (zcode_t D i) (-1) (dJ D)
        · rw [if_pos g]
        · rw [if_neg g] at q
          exact absurd rfl q)
      have k3 : ¬ zwrL zno (zP D (zcode_t D i) (-1)) = 0 → mSt D T i = false := fun q => decide_eq_false (fun q2 => by
        unfold zkd at q2
        rw [if_pos (by omega)] at q2
        exact absurd q2 (by decide))
      rw [zcnt_s (P := mQ D (-1) T) (i := i), zcnt_s (P := mSt D T) (i := i)] at h0
      refine zk_iload_n hX dX11_many_19 rfl ?_
      refine zk_aload_n hX dX11_many_20 rfl ?_
      refine zk_getR hX dX11_many_21 flX11_83 k_0 z_0 (hw _ _ (by decide) |>.trans r_0_13) ?_
      refine zk_getI hX dX11_many_24 flX11_305 k_131 z_131 ?_
      rw [e1]
      refine zk_icmp_ge (tgt := 71) hX dX11_many_27 (by decide) (fun c27 => ?_) (fun c27 => ?_)
      · exact absurd c27 (nI_ge hi2 (by omega))
      refine zk_aload_n hX dX11_many_30 rfl ?_
      refine zk_getR hX dX11_many_31 flX11_83 k_0 z_0 (hw _ _ (by decide) |>.trans r_0_13) ?_
      refine zk_iload_n hX dX11_many_34 rfl ?_
      refine zk_aload_n hX dX11_many_35 rfl ?_
      refine zk_getI hX dX11_many_36 flX11_55 k_0 z_0 ?_
      rw [hS]
      refine zk_V2i hX dX11_many_39 kcX6_isHeld mlX11_306 viX6_isHeld rfl k_131 z_131 ch (Nat.le_of_ble_eq_true rfl) rfl ?_
      refine zk_if_eqB (tgt := 51) hX dX11_many_42 (by decide) (fun c42 => ?_) (fun c42 => ?_)
      · refine zk_aload_n hX dX11_many_51 rfl ?_
        refine zk_getR hX dX11_many_52 flX11_83 k_0 z_0 (hw _ _ (by decide) |>.trans r_0_13) ?_
        refine zk_iload_n hX dX11_many_55 rfl ?_
        refine zk_V1i hX dX11_many_56 kcX6_isBarred mlX11_308 viX6_isBarred rfl k_131 z_131 cb (Nat.le_of_ble_eq_true rfl) rfl ?_
        refine zk_if_neB (tgt := 65) hX dX11_many_59 (by decide) (fun c59 => ?_) (fun c59 => ?_)
        · refine zk_iinc (lo' := [_, _, _, _]) hX dX11_many_65 rfl (by first | exact zinc _ | exact rfl) (Nat.le_of_ble_eq_true rfl) rfl rfl ?_
          refine zk_goto (tgt := 19) hX dX11_many_68 (by decide) ?_
          first
          | (have a1 : mQ D (-1) T i = true := by first | exact c42 | exact Decidable.not_not.mp c42
             rw [if_pos a1, if_neg (by rw [k1 a1]; decide)] at h0
             exact h0)
          | (have a2 : zwrL zno (zP D (zcode_t D i) (-1)) = 0 := eB.mp (by first | exact Decidable.not_not.mp c59 | exact c59)
             rw [if_neg c42, if_pos (k2 c42 a2)] at h0
             exact h0)
          | (have a2 : ¬ zwrL zno (zP D (zcode_t D i) (-1)) = 0 := fun q => c59 (eB.mpr q)
             rw [if_neg c42, if_neg (by rw [k3 a2]; decide)] at h0
             exact h0)
        · refine zk_iinc (lo' := [_, _, _, _]) hX dX11_many_62 rfl (by first | exact zinc _ | exact rfl) (Nat.le_of_ble_eq_true rfl) rfl rfl ?_
          refine zk_iinc (lo' := [_, _, _, _]) hX dX11_many_65 rfl (by first | exact zinc _ | exact rfl) (Nat.le_of_ble_eq_true rfl) rfl rfl ?_
          refine zk_goto (tgt := 19) hX dX11_many_68 (by decide) ?_
          first
          | (have a1 : mQ D (-1) T i = true := by first | exact c42 | exact Decidable.not_not.mp c42
             rw [if_pos a1, if_neg (by rw [k1 a1]; decide)] at h0
             exact h0)
          | (have a2 : zwrL zno (zP D (zcode_t D i) (-1)) = 0 := eB.mp (by first | exact Decidable.not_not.mp c59 | exact c59)
             rw [if_neg c42, if_pos (k2 c42 a2)] at h0
             exact h0)
          | (have a2 : ¬ zwrL zno (zP D (zcode_t D i) (-1)) = 0 := fun q => c59 (eB.mpr q)
             rw [if_neg c42, if_neg (by rw [k3 a2]; decide)] at h0
             exact h0)
      · refine zk_iinc (lo' := [_, _, _, _]) hX dX11_many_45 rfl (by first | exact zinc _ | exact rfl) (Nat.le_of_ble_eq_true rfl) rfl rfl ?_
        refine zk_goto (tgt := 65) hX dX11_many_48 (by decide) ?_
        refine zk_iinc (lo' := [_, _, _, _]) hX dX11_many_65 rfl (by first | exact zinc _ | exact rfl) (Nat.le_of_ble_eq_true rfl) rfl rfl ?_
        refine zk_goto (tgt := 19) hX dX11_many_68 (by decide) ?_
        first
        | (have a1 : mQ D (-1) T i = true := by first | exact c42 | exact Decidable.not_not.mp c42
           rw [if_pos a1, if_neg (by rw [k1 a1]; decide)] at h0
           exact h0)
        | (have a2 : zwrL zno (zP D (zcode_t D i) (-1)) = 0 := eB.mp (by first | exact Decidable.not_not.mp c59 | exact c59)
           rw [if_neg c42, if_pos (k2 c42 a2)] at h0
           exact h0)
        | (have a2 : ¬ zwrL zno (zP D (zcode_t D i) (-1)) = 0 := fun q => c59 (eB.mpr q)
           rw [if_neg c42, if_neg (by rw [k3 a2]; decide)] at h0
           exact h0)
  refine zk_aload_n hX dX11_many_0 rfl ?_
  refine zk_getR hX dX11_many_1 flX11_83 k_0 z_0 (hw _ _ (by decide) |>.trans r_0_13) ?_
  refine zk_getI hX dX11_many_4 flX11_302 k_131 z_131 ?_
  rw [h]
  refine zk_if_eq (tgt := 13) hX dX11_many_7 (by decide) (fun c7 => ?_) (fun c7 => ?_)
  rotate_left
  · exact absurd rfl c7
  refine zk_iconst (v := 0) hX dX11_many_13 (by decide) ?_
  refine zk_istore_n (lo' := [_, _, _, _]) hX dX11_many_14 (Nat.le_of_ble_eq_true rfl) rfl rfl ?_
  refine zk_iconst (v := 0) hX dX11_many_15 (by decide) ?_
  refine zk_istore_n (lo' := [_, _, _, _]) hX dX11_many_16 (Nat.le_of_ble_eq_true rfl) rfl rfl ?_
  refine zk_iconst (v := 0) hX dX11_many_17 (by decide) ?_
  refine zk_istore_n (lo' := [_, _, _, _]) hX dX11_many_18 (Nat.le_of_ble_eq_true rfl) rfl rfl ?_
  exact loop (zpr (zsp D) (dJ D)) 0 (by omega)
theorem s_X12_many_s {G : zG} {w : zW} {D : zD} (hw : zWf w) (hM : mHd w D) (hD : zDok D) (h : 4096 < zpr (zsp D) (dJ D)) : zEi G mX12_many [.ref 166] w (-6) w := by
  have hN0 := zpr_le hD (Nat.le_refl _)
  refine zC_of (lo := [_, _, _, _, _, _]) kcX12_many (Nat.le_of_ble_eq_true rfl) rfl (fun X hX hE => ?_)
  refine zk_aload_n hX dX12_many_0 rfl ?_
  refine zk_V0i hX dX12_many_1 kcX12_turnsMany mlX12_329 viX12_turnsMany rfl k_166 z_166 (s_X12_turnsMany hw hM hD) (Nat.le_of_ble_eq_true rfl) rfl ?_
  refine zk_istore_n (lo' := [_, _, _, _, _, _]) hX dX12_many_4 (Nat.le_of_ble_eq_true rfl) rfl rfl ?_
  refine zk_iload_n hX dX12_many_5 rfl ?_
  refine zk_sipush (v := 4096) hX dX12_many_6 (by decide) ?_
  refine zk_icmp_le (tgt := 15) hX dX12_many_9 (by decide) (fun c9 => ?_) (fun c9 => ?_)
  · exact absurd c9 (fun q => absurd (nI_leD (y := 4096) q) (by omega))
  refine zk_bipush (v := -6) hX dX12_many_12 (by decide) ?_
  refine zk_iret hX hE rfl ⟨rfl, rfl⟩ dX12_many_14 ⟨_, rfl, ?_⟩
  exact ⟨rfl, rfl⟩
theorem s_X12_many {G : zG} {w : zW} {D : zD} {T : Nat} (hw : zWf w) (hM : mHd w D) (hD : zDok D) (h : zpr (zsp D) (dJ D) ≤ 4096) (hT9 : T ≤ 99) (hS : w.1 166 24 = nI T) :
    zCi G mX12_many [.ref 166] w (fun a w' => a = nI (zcnt (mQ D (-1) T) (zpr (zsp D) (dJ D))) ∧ zFr [179, 180, 181] [] [2, 29] w w' ∧ w'.1 166 2 = nI (zcnt (mSt D T) (zpr (zsp D) (dJ D)))) := by
  refine zC_of (lo := [_, _, _, _, _, _]) kcX12_many (Nat.le_of_ble_eq_true rfl) rfl (fun X hX hE => ?_)
  have loop : ∀ z i w1 v, i + z = zpr (zsp D) (dJ D) → zFr [179, 180, 181] [] [29] w w1 → zk0 G X mX12_many 22 [.ref 166, .int (nI (zpr (zsp D) (dJ D))), .int (nI (zcnt (mQ D (-1) T) i)), .int (nI (zcnt (mSt D T) i)), .int (nI i), v] [] w1 := by
    intro z
    induction z with
    | zero =>
      intro i w1 v hi hF
      obtain rfl : i = zpr (zsp D) (dJ D) := by omega
      refine zk_iload hX dX12_many_22 rfl ?_
      refine zk_iload_n hX dX12_many_24 rfl ?_
      refine zk_icmp_ge (tgt := 80) hX dX12_many_25 (by decide) (fun c25 => ?_) (fun c25 => ?_)
      rotate_left
      · exact absurd (nI_le (Nat.le_refl _) (by omega)) c25
      refine zk_aload_n hX dX12_many_80 rfl ?_
      refine zk_iload_n hX dX12_many_81 rfl ?_
      refine zk_iload_n hX dX12_many_82 rfl ?_
      refine zk_V2i hX dX12_many_83 kcX12_tells mlX12_153 viX12_tells rfl k_166 z_166 (s_X12_tells _ _) (Nat.le_of_ble_eq_true rfl) rfl ?_
      refine zk_iret hX hE rfl ⟨rfl, rfl⟩ dX12_many_86 ⟨_, rfl, ?_⟩
      exact ⟨rfl, zFr_t (zFr_s hF (by decide)) (zFr_m (by decide)), by rw [zsi_1, if_pos ⟨rfl, rfl⟩]⟩
    | succ z ih =>
      intro i w0 v hi hF
      have hw0 := zFr_wf hF hw
      have hM0 := mHd_f hM hF (by decide)
      refine zk_iload hX dX12_many_22 rfl ?_
      refine zk_iload_n hX dX12_many_24 rfl ?_
      refine zk_icmp_ge (tgt := 80) hX dX12_many_25 (by decide) (fun c25 => ?_) (fun c25 => ?_)
      · exact absurd c25 (nI_ge (by omega) (by omega))
      refine zk_aload_n hX dX12_many_28 rfl ?_
      refine zk_iload hX dX12_many_29 rfl ?_
      refine zk_V1vp hX dX12_many_31 kcX12_layTurns mlX12_257 viX12_layTurns rfl k_166 z_166 (s_X12_layTurns hw0 hM0 hD (by omega)) (Nat.le_of_ble_eq_true rfl) rfl (fun w1 q1 => ?_)
      have hw1 := zFr_wf q1.1 hw0
      have hM1 := mHd_f hM0 q1.1 (by decide)
      have hT1 := zT2_c (zcode_2 hD i) q1.2
      refine zk_aload_n hX dX12_many_34 rfl ?_
      refine zk_iconst (v := -1) hX dX12_many_35 (by decide) ?_
      refine zk_V1vp hX dX12_many_36 kcX12_layPoints mlX12_260 viX12_layPoints rfl k_166 z_166 (s_X12_layPoints hw1 hM1 hD hT1 (Or.inl rfl)) (Nat.le_of_ble_eq_true rfl) rfl (fun w2 q2 => ?_)
      have hw2 := zFr_wf q2.1 hw1
      have hM2 := mHd_f hM1 q2.1 (by decide)
      have e9 : w2.1 179 = w1.1 179 := q2.1.2.1 179 (by decide) (by decide)
      have e24 : w2.1 166 24 = nI T := by rw [q2.1.2.2.2 24 (by decide), q1.1.2.2.2 24 (by decide), hF.2.2.2 24 (by decide), hS]
      refine zk_aload_n hX dX12_many_39 rfl ?_
      refine zk_iconst (v := -1) hX dX12_many_40 (by decide) ?_
      refine zk_V1i hX dX12_many_41 kcX12_kindNow mlX12_263 viX12_kindNow rfl k_166 z_166 (s_X12_kindNow hw2 hM2 hD (by rw [e9]; exact hT1) (Or.inl rfl) (by rw [e9]; exact q2.2) e24 hT9) (Nat.le_of_ble_eq_true rfl) rfl ?_
      have ek : zkd D (w2.1 179) (-1) T = zkd D (zcode_t D i) (-1) T := zkd_c hD (fun j hj => by rw [e9]; exact q1.2 j hj)
      rw [ek]
      refine zk_istore (lo' := [_, _, _, _, _, _]) hX dX12_many_44 (Nat.le_of_ble_eq_true rfl) rfl rfl ?_
      refine zk_iload_n hX dX12_many_46 rfl ?_
      refine zk_iload hX dX12_many_47 rfl ?_
      refine zk_iconst (v := 1) hX dX12_many_49 (by decide) ?_
      refine zk_icmp_ne (tgt := 57) hX dX12_many_50 (by decide) (fun c50 => ?_) (fun c50 => ?_)
      · refine zk_iconst (v := 0) hX dX12_many_57 (by decide) ?_
        refine zk_iadd hX dX12_many_58 ?_
        refine zk_istore_n (lo' := [_, _, _, _, _, _]) hX dX12_many_59 (Nat.le_of_ble_eq_true rfl) rfl rfl ?_
        refine zk_iload_n hX dX12_many_60 rfl ?_
        refine zk_iload hX dX12_many_61 rfl ?_
        refine zk_iconst (v := 2) hX dX12_many_63 (by decide) ?_
        refine zk_icmp_ne (tgt := 71) hX dX12_many_64 (by decide) (fun c64 => ?_) (fun c64 => ?_)
        · refine zk_iconst (v := 0) hX dX12_many_71 (by decide) ?_
          refine zk_iadd hX dX12_many_72 ?_
          refine zk_istore_n (lo' := [_, _, _, _, _, _]) hX dX12_many_73 (Nat.le_of_ble_eq_true rfl) rfl rfl ?_
          refine zk_iinc (lo' := [_, _, _, _, _, _]) hX dX12_many_74 rfl (by first | exact zinc _ | exact rfl) (Nat.le_of_ble_eq_true rfl) rfl rfl ?_
          refine zk_goto (tgt := 22) hX dX12_many_77 (by decide) ?_
          have hF2 : zFr [179, 180, 181] [] [29] w w2 := zFr_t hF (zFr_t (zFr_s q1.1 (by decide)) (zFr_s q2.1 (by decide)))
          have h0 := ih (i + 1) w2 (.int (zkd D (zcode_t D i) (-1) T)) (by omega) hF2
          rw [zcnt_s (P := mQ D (-1) T) (i := i), zcnt_s (P := mSt D T) (i := i)] at h0
          first
            | (rw [if_pos (show mQ D (-1) T i = true from decide_eq_true c50), if_neg (show ¬ mSt D T i = true from fun q => by rw [c50] at c64; exact absurd c64 (by decide))] at h0
               exact absurd (c50.symm.trans c64) (by decide))
            | (rw [if_pos (show mQ D (-1) T i = true from decide_eq_true c50), if_neg (show ¬ mSt D T i = true from fun q => c64 (of_decide_eq_true q))] at h0
               rw [nI_1, Int32.add_zero]
               exact h0)
            | (rw [if_neg (show ¬ mQ D (-1) T i = true from fun q => c50 (of_decide_eq_true q)), if_pos (show mSt D T i = true from decide_eq_true c64)] at h0
               rw [Int32.add_zero, nI_1]
               exact h0)
            | (rw [if_neg (show ¬ mQ D (-1) T i = true from fun q => c50 (of_decide_eq_true q)), if_neg (show ¬ mSt D T i = true from fun q => c64 (of_decide_eq_true q))] at h0
               rw [Int32.add_zero, Int32.add_zero]
               exact h0)
            | exact absurd (c50.symm.trans c64) (by decide)
        · refine zk_iconst (v := 1) hX dX12_many_67 (by decide) ?_
          refine zk_goto (tgt := 72) hX dX12_many_68 (by decide) ?_
          refine zk_iadd hX dX12_many_72 ?_
          refine zk_istore_n (lo' := [_, _, _, _, _, _]) hX dX12_many_73 (Nat.le_of_ble_eq_true rfl) rfl rfl ?_
          refine zk_iinc (lo' := [_, _, _, _, _, _]) hX dX12_many_74 rfl (by first | exact zinc _ | exact rfl) (Nat.le_of_ble_eq_true rfl) rfl rfl ?_
          refine zk_goto (tgt := 22) hX dX12_many_77 (by decide) ?_
          have hF2 : zFr [179, 180, 181] [] [29] w w2 := zFr_t hF (zFr_t (zFr_s q1.1 (by decide)) (zFr_s q2.1 (by decide)))
          have h0 := ih (i + 1) w2 (.int (zkd D (zcode_t D i) (-1) T)) (by omega) hF2
          rw [zcnt_s (P := mQ D (-1) T) (i := i), zcnt_s (P := mSt D T) (i := i)] at h0
          first
            | (rw [if_pos (show mQ D (-1) T i = true from decide_eq_true c50), if_neg (show ¬ mSt D T i = true from fun q => by rw [c50] at c64; exact absurd c64 (by decide))] at h0
               exact absurd (c50.symm.trans c64) (by decide))
            | (rw [if_pos (show mQ D (-1) T i = true from decide_eq_true c50), if_neg (show ¬ mSt D T i = true from fun q => c64 (of_decide_eq_true q))] at h0
               rw [nI_1, Int32.add_zero]
               exact h0)
            | (rw [if_neg (show ¬ mQ D (-1) T i = true from fun q => c50 (of_decide_eq_true q)), if_pos (show mSt D T i = true from decide_eq_true c64)] at h0
               rw [Int32.add_zero, nI_1]
               exact h0)
            | (rw [if_neg (show ¬ mQ D (-1) T i = true from fun q => c50 (of_decide_eq_true q)), if_neg (show ¬ mSt D T i = true from fun q => c64 (of_decide_eq_true q))] at h0
               rw [Int32.add_zero, Int32.add_zero]
               exact h0)
            | exact absurd (c50.symm.trans c64) (by decide)
      · refine zk_iconst (v := 1) hX dX12_many_53 (by decide) ?_
        refine zk_goto (tgt := 58) hX dX12_many_54 (by decide) ?_
        refine zk_iadd hX dX12_many_58 ?_
        refine zk_istore_n (lo' := [_, _, _, _, _, _]) hX dX12_many_59 (Nat.le_of_ble_eq_true rfl) rfl rfl ?_
        refine zk_iload_n hX dX12_many_60 rfl ?_
        refine zk_iload hX dX12_many_61 rfl ?_
        refine zk_iconst (v := 2) hX dX12_many_63 (by decide) ?_
        refine zk_icmp_ne (tgt := 71) hX dX12_many_64 (by decide) (fun c64 => ?_) (fun c64 => ?_)
        · refine zk_iconst (v := 0) hX dX12_many_71 (by decide) ?_
          refine zk_iadd hX dX12_many_72 ?_
          refine zk_istore_n (lo' := [_, _, _, _, _, _]) hX dX12_many_73 (Nat.le_of_ble_eq_true rfl) rfl rfl ?_
          refine zk_iinc (lo' := [_, _, _, _, _, _]) hX dX12_many_74 rfl (by first | exact zinc _ | exact rfl) (Nat.le_of_ble_eq_true rfl) rfl rfl ?_
          refine zk_goto (tgt := 22) hX dX12_many_77 (by decide) ?_
          have hF2 : zFr [179, 180, 181] [] [29] w w2 := zFr_t hF (zFr_t (zFr_s q1.1 (by decide)) (zFr_s q2.1 (by decide)))
          have h0 := ih (i + 1) w2 (.int (zkd D (zcode_t D i) (-1) T)) (by omega) hF2
          rw [zcnt_s (P := mQ D (-1) T) (i := i), zcnt_s (P := mSt D T) (i := i)] at h0
          first
            | (rw [if_pos (show mQ D (-1) T i = true from decide_eq_true c50), if_neg (show ¬ mSt D T i = true from fun q => by rw [c50] at c64; exact absurd c64 (by decide))] at h0
               exact absurd (c50.symm.trans c64) (by decide))
            | (rw [if_pos (show mQ D (-1) T i = true from decide_eq_true c50), if_neg (show ¬ mSt D T i = true from fun q => c64 (of_decide_eq_true q))] at h0
               rw [nI_1, Int32.add_zero]
               exact h0)
            | (rw [if_neg (show ¬ mQ D (-1) T i = true from fun q => c50 (of_decide_eq_true q)), if_pos (show mSt D T i = true from decide_eq_true c64)] at h0
               rw [Int32.add_zero, nI_1]
               exact h0)
            | (rw [if_neg (show ¬ mQ D (-1) T i = true from fun q => c50 (of_decide_eq_true q)), if_neg (show ¬ mSt D T i = true from fun q => c64 (of_decide_eq_true q))] at h0
               rw [Int32.add_zero, Int32.add_zero]
               exact h0)
            | exact absurd (c50.symm.trans c64) (by decide)
        · refine zk_iconst (v := 1) hX dX12_many_67 (by decide) ?_
          refine zk_goto (tgt := 72) hX dX12_many_68 (by decide) ?_
          refine zk_iadd hX dX12_many_72 ?_
          refine zk_istore_n (lo' := [_, _, _, _, _, _]) hX dX12_many_73 (Nat.le_of_ble_eq_true rfl) rfl rfl ?_
          refine zk_iinc (lo' := [_, _, _, _, _, _]) hX dX12_many_74 rfl (by first | exact zinc _ | exact rfl) (Nat.le_of_ble_eq_true rfl) rfl rfl ?_
          refine zk_goto (tgt := 22) hX dX12_many_77 (by decide) ?_
          have hF2 : zFr [179, 180, 181] [] [29] w w2 := zFr_t hF (zFr_t (zFr_s q1.1 (by decide)) (zFr_s q2.1 (by decide)))
          have h0 := ih (i + 1) w2 (.int (zkd D (zcode_t D i) (-1) T)) (by omega) hF2
          rw [zcnt_s (P := mQ D (-1) T) (i := i), zcnt_s (P := mSt D T) (i := i)] at h0
          first
            | (rw [if_pos (show mQ D (-1) T i = true from decide_eq_true c50), if_neg (show ¬ mSt D T i = true from fun q => by rw [c50] at c64; exact absurd c64 (by decide))] at h0
               exact absurd (c50.symm.trans c64) (by decide))
            | (rw [if_pos (show mQ D (-1) T i = true from decide_eq_true c50), if_neg (show ¬ mSt D T i = true from fun q => c64 (of_decide_eq_true q))] at h0
               rw [nI_1, Int32.add_zero]
               exact h0)
            | (rw [if_neg (show ¬ mQ D (-1) T i = true from fun q => c50 (of_decide_eq_true q)), if_pos (show mSt D T i = true from decide_eq_true c64)] at h0
               rw [Int32.add_zero, nI_1]
               exact h0)
            | (rw [if_neg (show ¬ mQ D (-1) T i = true from fun q => c50 (of_decide_eq_true q)), if_neg (show ¬ mSt D T i = true from fun q => c64 (of_decide_eq_true q))] at h0
               rw [Int32.add_zero, Int32.add_zero]
               exact h0)
            | exact absurd (c50.symm.trans c64) (by decide)
  refine zk_aload_n hX dX12_many_0 rfl ?_
  refine zk_V0i hX dX12_many_1 kcX12_turnsMany mlX12_329 viX12_turnsMany rfl k_166 z_166 (s_X12_turnsMany hw hM hD) (Nat.le_of_ble_eq_true rfl) rfl ?_
  refine zk_istore_n (lo' := [_, _, _, _, _, _]) hX dX12_many_4 (Nat.le_of_ble_eq_true rfl) rfl rfl ?_
  refine zk_iload_n hX dX12_many_5 rfl ?_
  refine zk_sipush (v := 4096) hX dX12_many_6 (by decide) ?_
  refine zk_icmp_le (tgt := 15) hX dX12_many_9 (by decide) (fun c9 => ?_) (fun c9 => ?_)
  rotate_left
  · exact absurd (nI_le (b := 4096) h (by decide)) c9
  refine zk_iconst (v := 0) hX dX12_many_15 (by decide) ?_
  refine zk_istore_n (lo' := [_, _, _, _, _, _]) hX dX12_many_16 (Nat.le_of_ble_eq_true rfl) rfl rfl ?_
  refine zk_iconst (v := 0) hX dX12_many_17 (by decide) ?_
  refine zk_istore_n (lo' := [_, _, _, _, _, _]) hX dX12_many_18 (Nat.le_of_ble_eq_true rfl) rfl rfl ?_
  refine zk_iconst (v := 0) hX dX12_many_19 (by decide) ?_
  refine zk_istore (lo' := [_, _, _, _, _, _]) hX dX12_many_20 (Nat.le_of_ble_eq_true rfl) rfl rfl ?_
  exact loop (zpr (zsp D) (dJ D)) 0 w _ (by omega) zFr_r
theorem zO_many {G : zG} : zOi G mX11_many mX12_many [] := by
  intro w h
  have h0 := h
  obtain ⟨hw, hT, hR, hX, hB, D, z, u, v, T, n, nl, c, hH, hL, hS, hP, hK⟩ := h
  obtain ⟨hD, hH1, hM, hRe⟩ := hH
  by_cases hN : 4096 < zpr (zsp D) (dJ D)
  · exact zOe (s_X11_many_s hw (by rw [hRe.2.2.1, if_pos hN])) (s_X12_many_s hw hM hD hN) rfl h0
  · have hc := hRe.2.2.2 (by omega)
    have hF1 : zFr [1] [] [] w (zsi w 1 0 (nI (zcnt (mSt D T) (zpr (zsp D) (dJ D))))) := zFr_i (by decide) (by decide)
    refine zEi_c (s_X11_many (G := G) hw hD (by rw [hRe.2.2.1, if_neg hN]) ⟨hc.1, hc.2, by rw [zN_code hD]; omega⟩ hS.1 hS.2.1) (zCi_m (s_X12_many (G := G) (zFr_wf hF1 hw) (mHd_f hM hF1 (by decide)) hD (by omega) hS.1 (by rw [hF1.2.2.2 24 (by decide)]; exact hS.2.2)) (fun a w2 g => ?_))
    obtain ⟨rfl, k1, k2⟩ := g
    have hF : zFr [1, 179, 180, 181] [] [2, 29] w w2 := zFr_t (zFr_s hF1 (by decide)) (zFr_s k1 (by decide))
    refine ⟨rfl, zQ_told h0 (zFr_wf hF hw) hF.2 (by decide) (qT_v hT ?_ ⟨hF.2.2.1 1 (by decide), hF.2.2.1 166 (by decide)⟩ ⟨?_, hF.2.2.2 0 (by decide)⟩ ⟨hF.2.1 2 (by decide) (by decide), hF.2.1 167 (by decide) (by decide)⟩)⟩
    · rw [k1.2.1 1 (by decide) (by decide), k2, zsi_1, if_pos ⟨rfl, rfl⟩]
    · rw [k1.2.1 1 (by decide) (by decide), zsi_1, if_neg (by omega)]
