def mSt (D : zD) (T i : Nat) : Bool := decide (zkd D (zcode_t D i) (-1) T = 2)
theorem s_X11_many_s {G : zG} {w : zW} (hw : zWf w) (h : w.1 131 0 = 1) : zEi G mX11_many [.ref 0] w (-6) w := by
  refine zC_of (lo := [_, _, _, _]) kcX11_many (Nat.le_of_ble_eq_true rfl) rfl (fun X hX hE => ?_)
  refine zk_aload_n hX dX11_many_0 rfl ?_
  refine zk_getR hX dX11_many_1 flX11_83 k_0 z_0 (hw _ _ (by decide) |>.trans r_0_13) ?_
  refine zk_getI hX dX11_many_4 flX11_302 k_131 z_131 ?_
  rw [h]
  refine zk_if_eq (tgt := 13) hX dX11_many_7 (by decide) (fun c7 => ?_) (fun c7 => ?_)
  · exact absurd c7 (by decide)
  refine zk_bipush (v := -6) hX dX11_many_10 (by decide) ?_
  refine zk_iret hX hE rfl ⟨rfl, rfl⟩ dX11_many_12 ⟨_, rfl, ?_⟩
  exact ⟨rfl, rfl⟩
theorem s_X11_many {G : zG} {w : zW} {D : zD} {T : Nat} (hw : zWf w) (hD : zDok D) (h : w.1 131 0 = 0) (hT : cTab w D (-1)) (hT9 : T ≤ 99) (hS : w.1 0 8 = nI T) :
    zEi G mX11_many [.ref 0] w (nI (zcnt (mQ D (-1) T) (zpr (zsp D) (dJ D)))) (zsi w 1 0 (nI (zcnt (mSt D T) (zpr (zsp D) (dJ D))))) := by
  have hN : zpr (zsp D) (dJ D) ≤ 4096 := by rw [← zN_code hD]; exact hT.2.2
  have e1 : w.1 131 1 = nI (zpr (zsp D) (dJ D)) := by rw [← zN_code hD]; exact hT.1
  refine zC_of (lo := [_, _, _, _]) kcX11_many (Nat.le_of_ble_eq_true rfl) rfl (fun X hX hE => ?_)
  have loop : ∀ z i, i + z = zpr (zsp D) (dJ D) → zk0 G X mX11_many 19 [.ref 0, .int (nI (zcnt (mQ D (-1) T) i)), .int (nI (zcnt (mSt D T) i)), .int (nI i)] [] w := by
    intro z
    induction z with
    | zero =>
      intro i hi
      obtain rfl : i = zpr (zsp D) (dJ D) := by omega
      refine zk_iload_n hX dX11_many_19 rfl ?_
      refine zk_aload_n hX dX11_many_20 rfl ?_
      refine zk_getR hX dX11_many_21 flX11_83 k_0 z_0 (hw _ _ (by decide) |>.trans r_0_13) ?_
      refine zk_getI hX dX11_many_24 flX11_305 k_131 z_131 ?_
      rw [e1]
      refine zk_icmp_ge (tgt := 71) hX dX11_many_27 (by decide) (fun c27 => ?_) (fun c27 => ?_)
      rotate_left
      · exact absurd (nI_le (Nat.le_refl _) (by omega)) c27
      refine zk_aload_n hX dX11_many_71 rfl ?_
      refine zk_getR hX dX11_many_72 flX11_12 k_0 z_0 (hw _ _ (by decide) |>.trans r_0_0) ?_
      refine zk_iload_n hX dX11_many_75 rfl ?_
      refine zk_V1i hX dX11_many_76 kcX9_tell mlX11_132 viX9_tell rfl k_1 z_1 (s_X9_tell _) (Nat.le_of_ble_eq_true rfl) rfl ?_
      refine zk_pop hX dX11_many_79 rfl ?_
      refine zk_iload_n hX dX11_many_80 rfl ?_
      refine zk_iret hX hE rfl ⟨rfl, rfl⟩ dX11_many_81 ⟨_, rfl, ?_⟩
      exact ⟨rfl, rfl⟩
    | succ z ih =>
      intro i hi
      have h0 := ih (i + 1) (by omega)
      have hi2 : i < zpr (zsp D) (dJ D) := by omega
      have eH : rH D (-1) T i = mQ D (-1) T i := rH_code hD hi2
      have eB : (i < zN_ D (-1) (dF D) ∧ zwrL zno (rL D (-1) (dF D) i) = 0) ↔ zwrL zno (zP D (zcode_t D i) (-1)) = 0 := by
        rw [rL_code hD, zN_code hD]
        exact ⟨fun q => q.2, fun q => ⟨hi2, q⟩⟩
      have cb := s_X6_isBarred (G := G) (i := i) hw hD hT (by omega)
      have ch := s_X6_isHeld (G := G) (i := i) hw hD hT hT9 (by omega)
      rw [eH] at ch
      have k1 : mQ D (-1) T i = true → mSt D T i = false := fun q => decide_eq_false (fun q2 => by rw [of_decide_eq_true q] at q2; exact absurd q2 (by decide))
      have k2 : ¬ mQ D (-1) T i = true → zwrL zno (zP D (zcode_t D i) (-1)) = 0 → mSt D T i = true := fun q q2 => decide_eq_true (by
        have q : ¬ zkd D (zcode_t D i) (-1) T = 1 := fun z => q (decide_eq_true z)
        unfold zkd at q ⊢
        rw [if_neg (by omega)] at q ⊢
        by_cases g : T < zldo D (zcode_t D i) (-1) (dJ D)
        · rw [if_pos g]
        · rw [if_neg g] at q
          exact absurd rfl q)
      have k3 : ¬ zwrL zno (zP D (zcode_t D i) (-1)) = 0 → mSt D T i = false := fun q => decide_eq_false (fun q2 => by
        unfold zkd at q2
        rw [if_pos (by omega)] at q2
        exact absurd q2 (by decide))
      rw [zcnt_s (P := mQ D (-1) T) (i := i), zcnt_s (P := mSt D T) (i := i)] at h0
      refine zk_iload_n hX dX11_many_19 rfl ?_
      refine zk_aload_n hX dX11_many_20 rfl ?_
      refine zk_getR hX dX11_many_21 flX11_83 k_0 z_0 (hw _ _ (by decide) |>.trans r_0_13) ?_
      refine zk_getI hX dX11_many_24 flX11_305 k_131 z_131 ?_
      rw [e1]
      refine zk_icmp_ge (tgt := 71) hX dX11_many_27 (by decide) (fun c27 => ?_) (fun c27 => ?_)
      · exact absurd c27 (nI_ge hi2 (by omega))
      refine zk_aload_n hX dX11_many_30 rfl ?_
      refine zk_getR hX dX11_many_31 flX11_83 k_0 z_0 (hw _ _ (by decide) |>.trans r_0_13) ?_
      refine zk_iload_n hX dX11_many_34 rfl ?_
      refine zk_aload_n hX dX11_many_35 rfl ?_
      refine zk_getI hX dX11_many_36 flX11_55 k_0 z_0 ?_
      rw [hS]
      refine zk_V2i hX dX11_many_39 kcX6_isHeld mlX11_306 viX6_isHeld rfl k_131 z_131 ch (Nat.le_of_ble_eq_true rfl) rfl ?_
      refine zk_if_eqB (tgt := 51) hX dX11_many_42 (by decide) (fun c42 => ?_) (fun c42 => ?_)
      · refine zk_aload_n hX dX11_many_51 rfl ?_
        refine zk_getR hX dX11_many_52 flX11_83 k_0 z_0 (hw _ _ (by decide) |>.trans r_0_13) ?_
        refine zk_iload_n hX dX11_many_55 rfl ?_
        refine zk_V1i hX dX11_many_56 kcX6_isBarred mlX11_308 viX6_isBarred rfl k_131 z_131 cb (Nat.le_of_ble_eq_true rfl) rfl ?_
        refine zk_if_neB (tgt := 65) hX dX11_many_59 (by decide) (fun c59 => ?_) (fun c59 => ?_)
        · refine zk_iinc (lo' := [_, _, _, _]) hX dX11_many_65 rfl (by first | exact zinc _ | exact rfl) (Nat.le_of_ble_eq_true rfl) rfl rfl ?_
          refine zk_goto (tgt := 19) hX dX11_many_68 (by decide) ?_
          first
          | (have a1 : mQ D (-1) T i = true := by first | exact c42 | exact Decidable.not_not.mp c42
             rw [if_pos a1, if_neg (by rw [k1 a1]; decide)] at h0
             exact h0)
          | (have a2 : zwrL zno (zP D (zcode_t D i) (-1)) = 0 := eB.mp (by first | exact Decidable.not_not.mp c59 | exact c59)
             rw [if_neg c42, if_pos (k2 c42 a2)] at h0
             exact h0)
          | (have a2 : ¬ zwrL zno (zP D (zcode_t D i) (-1)) = 0 := fun q => c59 (eB.mpr q)
             rw [if_neg c42, if_neg (by rw [k3 a2]; decide)] at h0
             exact h0)
        · refine zk_iinc (lo' := [_, _, _, _]) hX dX11_many_62 rfl (by first | exact zinc _ | exact rfl) (Nat.le_of_ble_eq_true rfl) rfl rfl ?_
          refine zk_iinc (lo' := [_, _, _, _]) hX dX11_many_65 rfl (by first | exact zinc _ | exact rfl) (Nat.le_of_ble_eq_true rfl) rfl rfl ?_
          refine zk_goto (tgt := 19) hX dX11_many_68 (by decide) ?_
          first
          | (have a1 : mQ D (-1) T i = true := by first | exact c42 | exact Decidable.not_not.mp c42
             rw [if_pos a1, if_neg (by rw [k1 a1]; decide)] at h0
             exact h0)
          | (have a2 : zwrL zno (zP D (zcode_t D i) (-1)) = 0 := eB.mp (by first | exact Decidable.not_not.mp c59 | exact c59)
             rw [if_neg c42, if_pos (k2 c42 a2)] at h0
             exact h0)
          | (have a2 : ¬ zwrL zno (zP D (zcode_t D i) (-1)) = 0 := fun q => c59 (eB.mpr q)
             rw [if_neg c42, if_neg (by rw [k3 a2]; decide)] at h0
             exact h0)
      · refine zk_iinc (lo' := [_, _, _, _]) hX dX11_many_45 rfl (by first | exact zinc _ | exact rfl) (Nat.le_of_ble_eq_true rfl) rfl rfl ?_
        refine zk_goto (tgt := 65) hX dX11_many_48 (by decide) ?_
        refine zk_iinc (lo' := [_, _, _, _]) hX dX11_many_65 rfl (by first | exact zinc _ | exact rfl) (Nat.le_of_ble_eq_true rfl) rfl rfl ?_
        refine zk_goto (tgt := 19) hX dX11_many_68 (by decide) ?_
        first
        | (have a1 : mQ D (-1) T i = true := by first | exact c42 | exact Decidable.not_not.mp c42
           rw [if_pos a1, if_neg (by rw [k1 a1]; decide)] at h0
           exact h0)
        | (have a2 : zwrL zno (zP D (zcode_t D i) (-1)) = 0 := eB.mp (by first | exact Decidable.not_not.mp c59 | exact c59)
           rw [if_neg c42, if_pos (k2 c42 a2)] at h0
           exact h0)
        | (have a2 : ¬ zwrL zno (zP D (zcode_t D i) (-1)) = 0 := fun q => c59 (eB.mpr q)
           rw [if_neg c42, if_neg (by rw [k3 a2]; decide)] at h0
           exact h0)
  refine zk_aload_n hX dX11_many_0 rfl ?_
  refine zk_getR hX dX11_many_1 flX11_83 k_0 z_0 (hw _ _ (by decide) |>.trans r_0_13) ?_
  refine zk_getI hX dX11_many_4 flX11_302 k_131 z_131 ?_
  rw [h]
  refine zk_if_eq (tgt := 13) hX dX11_many_7 (by decide) (fun c7 => ?_) (fun c7 => ?_)
  rotate_left
  · exact absurd rfl c7
  refine zk_iconst (v := 0) hX dX11_many_13 (by decide) ?_
  refine zk_istore_n (lo' := [_, _, _, _]) hX dX11_many_14 (Nat.le_of_ble_eq_true rfl) rfl rfl ?_
  refine zk_iconst (v := 0) hX dX11_many_15 (by decide) ?_
  refine zk_istore_n (lo' := [_, _, _, _]) hX dX11_many_16 (Nat.le_of_ble_eq_true rfl) rfl rfl ?_
  refine zk_iconst (v := 0) hX dX11_many_17 (by decide) ?_
  refine zk_istore_n (lo' := [_, _, _, _]) hX dX11_many_18 (Nat.le_of_ble_eq_true rfl) rfl rfl ?_
  exact loop (zpr (zsp D) (dJ D)) 0 (by omega)
