theorem nI_n9 {b : Nat} (hb : b < 5000) : ¬ nI b = -9 := fun q => by
  have q1 : (0 : Int32) ≤ nI b := nI_pos' (by omega)
  rw [q] at q1
  exact absurd q1 (by decide)
theorem s_X6_nearest_n {G : zG} {w : zW} {D : zD} {o : Int32} {k z u v T : Nat} {M Y : zS} (hw : zWf w) (hD : zDok D) (hT9 : T ≤ 99) (hT : cTab w D o) (hR : cThr w D o z u v (dF D)) (hk : k < 6) (hB : cBe w k M Y) :
    zEi G mX6_nearestTurns [.ref 131, .ref 26, .ref (96 + 3 * k), .int (nI T), .int (-9)] w (zoe (zbst (rH D o T) (rO D o z u v M Y) (zN_ D o (dF D)))) w :=
  s_X6_nearestTurns (P := rH D o T) hw hD hT9 hT hR hk hB (fun _ h => h) (fun X i st0 lo hX hi h l0 l1 l4 l7 k54 k85 =>
    zk_iload hX dX6_nearestTurns_32 l4 (zk_bipush (v := -9) hX dX6_nearestTurns_34 (by decide) (zk_icmp_eq (tgt := 54) hX dX6_nearestTurns_36 (by decide) (fun _ => k54 h) (fun c => absurd rfl c))))
/-- held, a joint at 0 -/
def rHs (D : zD) (T j i : Nat) : Bool := rH D (-1) T i && decide (zcode_t D i j = 0)
theorem s_X6_nearest_j {G : zG} {w : zW} {D : zD} {k z u v T j : Nat} {M Y : zS} (hw : zWf w) (hD : zDok D) (hH : cHd w 26 D) (hS : cStep w D) (hj : j < dJ D) (hT9 : T ≤ 99) (hT : cTab w D (-1)) (hR : cThr w D (-1) z u v (dF D)) (hk : k < 6) (hB : cBe w k M Y) :
    zEi G mX6_nearestTurns [.ref 131, .ref 26, .ref (96 + 3 * k), .int (nI T), .int (nI j)] w (zoe (zbst (rHs D T j) (rO D (-1) z u v M Y) (zN_ D (-1) (dF D)))) w := by
  have h6 := hD.1.2.2
  have hN := hT.2.2
  refine s_X6_nearestTurns (P := rHs D T j) hw hD hT9 hT hR hk hB (fun i h => by unfold rHs at h; rw [Bool.and_eq_true] at h; exact h.1) (fun X i st0 lo hX hi h l0 l1 l4 l7 k54 k85 => ?_)
  have e0 : (rHs D T j i = true) ↔ zcode_t D i j = 0 := by
    unfold rHs
    rw [Bool.and_eq_true, decide_eq_true_eq]
    exact ⟨fun q => q.2, fun q => ⟨h, q⟩⟩
  refine zk_iload hX dX6_nearestTurns_32 l4 ?_
  refine zk_bipush (v := -9) hX dX6_nearestTurns_34 (by decide) ?_
  refine zk_icmp_eq (tgt := 54) hX dX6_nearestTurns_36 (by decide) (fun c => absurd c (nI_n9 (by omega))) (fun _ => ?_)
  refine zk_aload_n hX dX6_nearestTurns_39 l0 ?_
  refine zk_aload_n hX dX6_nearestTurns_40 l1 ?_
  refine zk_iload hX dX6_nearestTurns_41 l7 ?_
  refine zk_iload hX dX6_nearestTurns_43 l4 ?_
  refine zk_V3i hX dX6_nearestTurns_45 kcX6_turnAt mlX6_159 viX6_turnAt rfl k_131 z_131 (s_X6_turnAt hw hD hH hS (by omega) hj) (Nat.le_of_ble_eq_true rfl) rfl ?_
  refine zk_if_eq (tgt := 54) hX dX6_nearestTurns_48 (by decide) (fun c => k54 (e0.mpr c)) (fun c => ?_)
  refine zk_goto (tgt := 85) hX dX6_nearestTurns_51 (by decide) ?_
  exact k85 (fun q => c (e0.mp q))
theorem zbst_lt {P : Nat → Bool} {f : Nat → Nat} {n b : Nat} (h : zbst P f n = some b) : b < n := by
  rcases zbst_ok P f n with ⟨e, _⟩ | ⟨c, e, hc, _⟩
  · rw [e] at h; cases h
  · rw [e] at h; cases h; exact hc
theorem s_X6_leastOff_n {G : zG} {w : zW} {D : zD} {o : Int32} {k z u v T : Nat} {M Y : zS} (hw : zWf w) (hD : zDok D) (hT9 : T ≤ 99) (hT : cTab w D o) (hR : cThr w D o z u v (dF D)) (hk : k < 6) (hB : cBe w k M Y) :
    zEi G mX6_leastOff [.ref 131, .ref 26, .ref (96 + 3 * k), .int (nI T), .int (-9)] w (zoe ((zbst (rH D o T) (rO D o z u v M Y) (zN_ D o (dF D))).map (rO D o z u v M Y))) w := by
  refine zC_of (lo := [_, _, _, _, _]) kcX6_leastOff (Nat.le_of_ble_eq_true rfl) rfl (fun X hX hE => ?_)
  refine zk_aload_n hX dX6_leastOff_0 rfl ?_
  refine zk_aload_n hX dX6_leastOff_1 rfl ?_
  refine zk_aload_n hX dX6_leastOff_2 rfl ?_
  refine zk_aload_n hX dX6_leastOff_3 rfl ?_
  refine zk_aload_n hX dX6_leastOff_4 rfl ?_
  refine zk_iload_n hX dX6_leastOff_5 rfl ?_
  refine zk_iload hX dX6_leastOff_6 rfl ?_
  refine zk_V4i hX dX6_leastOff_8 kcX6_nearestTurns mlX6_166 viX6_nearestTurns rfl k_131 z_131 (s_X6_nearest_n hw hD hT9 hT hR hk hB) (Nat.le_of_ble_eq_true rfl) rfl ?_
  refine zk_V2i hX dX6_leastOff_11 kcX6_offOf mlX6_163 viX6_offOf rfl k_131 z_131 (s_X6_offOf hw hT hR hk hB _ (fun b h => zbst_lt h)) (Nat.le_of_ble_eq_true rfl) rfl ?_
  refine zk_iret hX hE rfl ⟨rfl, rfl⟩ dX6_leastOff_14 ⟨_, rfl, ?_⟩
  exact ⟨rfl, rfl⟩
theorem s_X6_leastOff_j {G : zG} {w : zW} {D : zD} {k z u v T j : Nat} {M Y : zS} (hw : zWf w) (hD : zDok D) (hH : cHd w 26 D) (hS : cStep w D) (hj : j < dJ D) (hT9 : T ≤ 99) (hT : cTab w D (-1)) (hR : cThr w D (-1) z u v (dF D)) (hk : k < 6) (hB : cBe w k M Y) :
    zEi G mX6_leastOff [.ref 131, .ref 26, .ref (96 + 3 * k), .int (nI T), .int (nI j)] w (zoe ((zbst (rHs D T j) (rO D (-1) z u v M Y) (zN_ D (-1) (dF D))).map (rO D (-1) z u v M Y))) w := by
  refine zC_of (lo := [_, _, _, _, _]) kcX6_leastOff (Nat.le_of_ble_eq_true rfl) rfl (fun X hX hE => ?_)
  refine zk_aload_n hX dX6_leastOff_0 rfl ?_
  refine zk_aload_n hX dX6_leastOff_1 rfl ?_
  refine zk_aload_n hX dX6_leastOff_2 rfl ?_
  refine zk_aload_n hX dX6_leastOff_3 rfl ?_
  refine zk_aload_n hX dX6_leastOff_4 rfl ?_
  refine zk_iload_n hX dX6_leastOff_5 rfl ?_
  refine zk_iload hX dX6_leastOff_6 rfl ?_
  refine zk_V4i hX dX6_leastOff_8 kcX6_nearestTurns mlX6_166 viX6_nearestTurns rfl k_131 z_131 (s_X6_nearest_j hw hD hH hS hj hT9 hT hR hk hB) (Nat.le_of_ble_eq_true rfl) rfl ?_
  refine zk_V2i hX dX6_leastOff_11 kcX6_offOf mlX6_163 viX6_offOf rfl k_131 z_131 (s_X6_offOf hw hT hR hk hB _ (fun b h => zbst_lt h)) (Nat.le_of_ble_eq_true rfl) rfl ?_
  refine zk_iret hX hE rfl ⟨rfl, rfl⟩ dX6_leastOff_14 ⟨_, rfl, ?_⟩
  exact ⟨rfl, rfl⟩
theorem s_X6_joinDark {G : zG} {w : zW} {D : zD} {o : Int32} {T k : Nat} (hw : zWf w) (hD : zDok D) (hT9 : T ≤ 99) (hT : cTab w D o) (hC : zCe k) : zEv G mX6_joinDark [.ref 131, .int (nI T), .ref k] w (zsetS w k (zuni (rH D o T) (fun i => zdkL zno (rL D o (dF D) i)) (zN_ D o (dF D)))) := by
  have hN := hT.2.2
  have hTS : ∀ S, k ≠ 135 ∧ k ≠ 136 → cTab (zsetS w k S) D o := fun S hk => cTab_f (A := []) (B := [k]) (F := []) hT (zFr_S (by simp)) (by simp; omega)
  have hk135 : k ≠ 135 ∧ k ≠ 136 := by
    constructor
    · rintro rfl
      exact absurd hC.2 (by decide +kernel)
    · rintro rfl
      exact absurd hC.2 (by decide +kernel)
  have hwS : ∀ S, zWf (zsetS w k S) := fun S => zWf_of hw rfl
  refine zC_of (lo := [_, _, _, _]) kcX6_joinDark (Nat.le_of_ble_eq_true rfl) rfl (fun X hX hE => ?_)
  have loop : ∀ m i, i + m = zN_ D o (dF D) → zk0 G X mX6_joinDark 6 [.ref 131, .int (nI T), .ref k, .int (nI i)] [] (zsetS w k (zuni (rH D o T) (fun i => zdkL zno (rL D o (dF D) i)) i)) := by
    intro m
    induction m with
    | zero =>
      intro i hi
      obtain rfl : i = zN_ D o (dF D) := by omega
      refine zk_iload_n hX dX6_joinDark_6 rfl ?_
      refine zk_aload_n hX dX6_joinDark_7 rfl ?_
      refine zk_getI hX dX6_joinDark_8 flX6_9 k_131 z_131 ?_
      rw [zsetS_1, hT.1]
      refine zk_icmp_ge (tgt := 45) hX dX6_joinDark_11 (by decide) (fun c11 => ?_) (fun c11 => ?_)
      rotate_left
      · exact absurd (nI_le (Nat.le_refl _) (by omega)) c11
      refine zk_vret hX hE rfl ⟨rfl, rfl⟩ dX6_joinDark_45 ⟨rfl, ?_⟩
      rfl
    | succ m ih =>
      intro i hi
      have h0 := ih (i + 1) (by omega)
      have et : rH D o T i = true → zuni (rH D o T) (fun i => zdkL zno (rL D o (dF D) i)) (i + 1) = zun (zuni (rH D o T) (fun i => zdkL zno (rL D o (dF D) i)) i) (zdkL zno (rL D o (dF D) i)) := fun q => if_pos q
      have ef : ¬ rH D o T i = true → zuni (rH D o T) (fun i => zdkL zno (rL D o (dF D) i)) (i + 1) = zuni (rH D o T) (fun i => zdkL zno (rL D o (dF D) i)) i := fun q => if_neg q
      have hri := hT.2.1 i (by omega)
      refine zk_iload_n hX dX6_joinDark_6 rfl ?_
      refine zk_aload_n hX dX6_joinDark_7 rfl ?_
      refine zk_getI hX dX6_joinDark_8 flX6_9 k_131 z_131 ?_
      rw [zsetS_1, hT.1]
      refine zk_icmp_ge (tgt := 45) hX dX6_joinDark_11 (by decide) (fun c11 => ?_) (fun c11 => ?_)
      · exact absurd c11 (nI_ge (by omega) (by omega))
      refine zk_aload_n hX dX6_joinDark_14 rfl ?_
      refine zk_iload_n hX dX6_joinDark_15 rfl ?_
      refine zk_iload_n hX dX6_joinDark_16 rfl ?_
      refine zk_V2i hX dX6_joinDark_17 kcX6_isHeld mlX6_155 viX6_isHeld rfl k_131 z_131 (s_X6_isHeld (hwS _) hD (hTS _ hk135) hT9 (by omega)) (Nat.le_of_ble_eq_true rfl) rfl ?_
      refine zk_if_eqB (tgt := 39) hX dX6_joinDark_20 (by decide) (fun c20 => ?_) (fun c20 => ?_)
      · try rw [zsetS_ss]
        refine zk_iinc (lo' := [_, _, _, _]) hX dX6_joinDark_39 rfl (by first | exact zinc _ | exact rfl) (Nat.le_of_ble_eq_true rfl) rfl rfl ?_
        refine zk_goto (tgt := 6) hX dX6_joinDark_42 (by decide) ?_
        first
        | (rw [et c20] at h0; exact h0)
        | (rw [et (Decidable.not_not.mp c20)] at h0; exact h0)
        | (rw [ef c20] at h0; exact h0)
      · refine zk_aload_n hX dX6_joinDark_23 rfl ?_
        refine zk_aload_n hX dX6_joinDark_24 rfl ?_
        refine zk_getR hX dX6_joinDark_25 flX6_26 k_131 z_131 ((hwS _) _ _ (by decide) |>.trans r_131_5) ?_
        refine zk_iload_n hX dX6_joinDark_28 rfl ?_
        refine zk_laldE hX dX6_joinDark_29 rfl k_135 z_135 (by first | assumption | omega) rfl ?_
        rw [zsetS_2 (fun q => hk135.1 q.symm), hri.2.1]
        refine zk_aload_n hX dX6_joinDark_30 rfl ?_
        refine zk_getR hX dX6_joinDark_31 flX6_30 k_131 z_131 ((hwS _) _ _ (by decide) |>.trans r_131_6) ?_
        refine zk_iload_n hX dX6_joinDark_34 rfl ?_
        refine zk_laldE hX dX6_joinDark_35 rfl k_136 z_136 (by first | assumption | omega) rfl ?_
        rw [zsetS_2 (fun q => hk135.2 q.symm), hri.2.2]
        refine zk_V2v hX dX6_joinDark_36 kcX1_join mlX6_170 viX1_join rfl hC.1 hC.2 (s_X1_join hC zsetS_has) (Nat.le_of_ble_eq_true rfl) rfl ?_
        try rw [zsetS_ss]
        refine zk_iinc (lo' := [_, _, _, _]) hX dX6_joinDark_39 rfl (by first | exact zinc _ | exact rfl) (Nat.le_of_ble_eq_true rfl) rfl rfl ?_
        refine zk_goto (tgt := 6) hX dX6_joinDark_42 (by decide) ?_
        first
        | (rw [et c20] at h0; exact h0)
        | (rw [et (Decidable.not_not.mp c20)] at h0; exact h0)
        | (rw [ef c20] at h0; exact h0)
  refine zk_aload_n hX dX6_joinDark_0 rfl ?_
  refine zk_V0v hX dX6_joinDark_1 kcX1_clear mlX6_105 viX1_clear rfl hC.1 hC.2 (s_X1_clear hC) (Nat.le_of_ble_eq_true rfl) rfl ?_
  refine zk_iconst (v := 0) hX dX6_joinDark_4 (by decide) ?_
  refine zk_istore_n (lo' := [_, _, _, _]) hX dX6_joinDark_5 (Nat.le_of_ble_eq_true rfl) rfl rfl ?_
  exact loop (zN_ D o (dF D)) 0 (by omega)
/-- held rows that throw just a shadow -/
def rJ (D : zD) (o : Int32) (z u v T : Nat) (S : zS) (i : Nat) : Bool := rH D o T i && decide (zT S = zT (zthr z u v (zdkL zno (rL D o (dF D) i))) ∧ zLo S = zLo (zthr z u v (zdkL zno (rL D o (dF D) i))))
theorem s_X6_throwsJust {G : zG} {w : zW} {D : zD} {o : Int32} {z u v T i k : Nat} {S : zS} (hw : zWf w) (hD : zDok D) (hT9 : T ≤ 99) (hT : cTab w D o) (hR : cThr w D o z u v (dF D)) (hC : zCe k) (hS : zHas w k S) (hi : i < 5000) : zEi G mX6_throwsJust [.ref 131, .int (nI i), .ref k, .int (nI T)] w (zb (rJ D o z u v T S i = true)) w := by
  have e0 : (rJ D o z u v T S i = true) ↔ (rH D o T i = true ∧ zT S = zT (zthr z u v (zdkL zno (rL D o (dF D) i))) ∧ zLo S = zLo (zthr z u v (zdkL zno (rL D o (dF D) i)))) := by
    unfold rJ
    rw [Bool.and_eq_true, decide_eq_true_eq]
  have hN := hT.2.2
  have hlt : rH D o T i = true → i < zN_ D o (dF D) := fun q => by unfold rH at q; exact (of_decide_eq_true q).1
  refine zC_of (lo := [_, _, _, _]) kcX6_throwsJust (Nat.le_of_ble_eq_true rfl) rfl (fun X hX hE => ?_)
  refine zk_aload_n hX dX6_throwsJust_0 rfl ?_
  refine zk_iload_n hX dX6_throwsJust_1 rfl ?_
  refine zk_iload_n hX dX6_throwsJust_2 rfl ?_
  refine zk_V2i hX dX6_throwsJust_3 kcX6_isHeld mlX6_155 viX6_isHeld rfl k_131 z_131 (s_X6_isHeld hw hD hT hT9 hi) (Nat.le_of_ble_eq_true rfl) rfl ?_
  refine zk_if_eqB (tgt := 32) hX dX6_throwsJust_6 (by decide) (fun c6 => ?_) (fun c6 => ?_)
  · refine zk_iconst (v := 0) hX dX6_throwsJust_32 (by decide) ?_
    refine zk_zret hX hE rfl ⟨rfl, rfl⟩ dX6_throwsJust_33 rfl ⟨_, rfl, ?_⟩
    refine ⟨?_, rfl⟩
    first
      | exact zb_t' (e0.mpr ⟨c6, c25⟩)
      | exact zb_t' (e0.mpr ⟨Decidable.not_not.mp c6, Decidable.not_not.mp c25⟩)
      | exact zb_f' (fun q => c25 (e0.mp q).2)
      | exact zb_f' (fun q => c6 (e0.mp q).1)
  · have hi2 := hlt (by first | exact c6 | exact Decidable.not_not.mp c6)
    refine zk_aload_n hX dX6_throwsJust_9 rfl ?_
    refine zk_aload_n hX dX6_throwsJust_10 rfl ?_
    refine zk_getR hX dX6_throwsJust_11 flX6_33 k_131 z_131 (hw _ _ (by decide) |>.trans r_131_7) ?_
    refine zk_iload_n hX dX6_throwsJust_14 rfl ?_
    refine zk_laldE hX dX6_throwsJust_15 rfl k_137 z_137 (by first | assumption | omega) rfl ?_
    rw [(hR i hi2).1]
    refine zk_aload_n hX dX6_throwsJust_16 rfl ?_
    refine zk_getR hX dX6_throwsJust_17 flX6_36 k_131 z_131 (hw _ _ (by decide) |>.trans r_131_8) ?_
    refine zk_iload_n hX dX6_throwsJust_20 rfl ?_
    refine zk_laldE hX dX6_throwsJust_21 rfl k_138 z_138 (by first | assumption | omega) rfl ?_
    rw [(hR i hi2).2]
    refine zk_V2i hX dX6_throwsJust_22 kcX1_is mlX6_173 viX1_is rfl hC.1 hC.2 (s_X1_is hC hS) (Nat.le_of_ble_eq_true rfl) rfl ?_
    refine zk_if_eqB (tgt := 32) hX dX6_throwsJust_25 (by decide) (fun c25 => ?_) (fun c25 => ?_)
    · refine zk_iconst (v := 0) hX dX6_throwsJust_32 (by decide) ?_
      refine zk_zret hX hE rfl ⟨rfl, rfl⟩ dX6_throwsJust_33 rfl ⟨_, rfl, ?_⟩
      refine ⟨?_, rfl⟩
      first
        | exact zb_t' (e0.mpr ⟨c6, c25⟩)
        | exact zb_t' (e0.mpr ⟨Decidable.not_not.mp c6, Decidable.not_not.mp c25⟩)
        | exact zb_f' (fun q => c25 (e0.mp q).2)
        | exact zb_f' (fun q => c6 (e0.mp q).1)
    · refine zk_iconst (v := 1) hX dX6_throwsJust_28 (by decide) ?_
      refine zk_goto (tgt := 33) hX dX6_throwsJust_29 (by decide) ?_
      refine zk_zret hX hE rfl ⟨rfl, rfl⟩ dX6_throwsJust_33 rfl ⟨_, rfl, ?_⟩
      refine ⟨?_, rfl⟩
      first
        | exact zb_t' (e0.mpr ⟨c6, c25⟩)
        | exact zb_t' (e0.mpr ⟨Decidable.not_not.mp c6, Decidable.not_not.mp c25⟩)
        | exact zb_f' (fun q => c25 (e0.mp q).2)
        | exact zb_f' (fun q => c6 (e0.mp q).1)
theorem s_X6_numberThrowing {G : zG} {w : zW} {D : zD} {o : Int32} {z u v T k : Nat} {S : zS} (hw : zWf w) (hD : zDok D) (hT9 : T ≤ 99) (hT : cTab w D o) (hR : cThr w D o z u v (dF D)) (hC : zCe k) (hS : zHas w k S) : zEi G mX6_numberThrowing [.ref 131, .ref k, .int (nI T)] w (nI (zcnt (rJ D o z u v T S) (zN_ D o (dF D)))) w := by
  have hN := hT.2.2
  refine zC_of (lo := [_, _, _, _, _]) kcX6_numberThrowing (Nat.le_of_ble_eq_true rfl) rfl (fun X hX hE => ?_)
  have loop : ∀ m i, i + m = zN_ D o (dF D) → zk0 G X mX6_numberThrowing 5 [.ref 131, .ref k, .int (nI T), .int (nI (zcnt (rJ D o z u v T S) i)), .int (nI i)] [] w := by
    intro m
    induction m with
    | zero =>
      intro i hi
      obtain rfl : i = zN_ D o (dF D) := by omega
      refine zk_iload hX dX6_numberThrowing_5 rfl ?_
      refine zk_aload_n hX dX6_numberThrowing_7 rfl ?_
      refine zk_getI hX dX6_numberThrowing_8 flX6_9 k_131 z_131 ?_
      rw [hT.1]
      refine zk_icmp_ge (tgt := 34) hX dX6_numberThrowing_11 (by decide) (fun c11 => ?_) (fun c11 => ?_)
      rotate_left
      · exact absurd (nI_le (Nat.le_refl _) (by omega)) c11
      refine zk_iload_n hX dX6_numberThrowing_34 rfl ?_
      refine zk_iret hX hE rfl ⟨rfl, rfl⟩ dX6_numberThrowing_35 ⟨_, rfl, ?_⟩
      exact ⟨rfl, rfl⟩
    | succ m ih =>
      intro i hi
      have h0 := ih (i + 1) (by omega)
      refine zk_iload hX dX6_numberThrowing_5 rfl ?_
      refine zk_aload_n hX dX6_numberThrowing_7 rfl ?_
      refine zk_getI hX dX6_numberThrowing_8 flX6_9 k_131 z_131 ?_
      rw [hT.1]
      refine zk_icmp_ge (tgt := 34) hX dX6_numberThrowing_11 (by decide) (fun c11 => ?_) (fun c11 => ?_)
      · exact absurd c11 (nI_ge (by omega) (by omega))
      refine zk_aload_n hX dX6_numberThrowing_14 rfl ?_
      refine zk_iload hX dX6_numberThrowing_15 rfl ?_
      refine zk_aload_n hX dX6_numberThrowing_17 rfl ?_
      refine zk_iload_n hX dX6_numberThrowing_18 rfl ?_
      refine zk_V3i hX dX6_numberThrowing_19 kcX6_throwsJust mlX6_177 viX6_throwsJust rfl k_131 z_131 (s_X6_throwsJust hw hD hT9 hT hR hC hS (by omega)) (Nat.le_of_ble_eq_true rfl) rfl ?_
      refine zk_if_eqB (tgt := 28) hX dX6_numberThrowing_22 (by decide) (fun c22 => ?_) (fun c22 => ?_)
      · refine zk_iinc (lo' := [_, _, _, _, _]) hX dX6_numberThrowing_28 rfl (by first | exact zinc _ | exact rfl) (Nat.le_of_ble_eq_true rfl) rfl rfl ?_
        refine zk_goto (tgt := 5) hX dX6_numberThrowing_31 (by decide) ?_
        first
        | (rw [zcnt_t c22] at h0; exact h0)
        | (rw [zcnt_t (Decidable.not_not.mp c22)] at h0; exact h0)
        | (rw [zcnt_f c22] at h0; exact h0)
      · refine zk_iinc (lo' := [_, _, _, _, _]) hX dX6_numberThrowing_25 rfl (by first | exact zinc _ | exact rfl) (Nat.le_of_ble_eq_true rfl) rfl rfl ?_
        refine zk_iinc (lo' := [_, _, _, _, _]) hX dX6_numberThrowing_28 rfl (by first | exact zinc _ | exact rfl) (Nat.le_of_ble_eq_true rfl) rfl rfl ?_
        refine zk_goto (tgt := 5) hX dX6_numberThrowing_31 (by decide) ?_
        first
        | (rw [zcnt_t c22] at h0; exact h0)
        | (rw [zcnt_t (Decidable.not_not.mp c22)] at h0; exact h0)
        | (rw [zcnt_f c22] at h0; exact h0)
  refine zk_iconst (v := 0) hX dX6_numberThrowing_0 (by decide) ?_
  refine zk_istore_n (lo' := [_, _, _, _, _]) hX dX6_numberThrowing_1 (Nat.le_of_ble_eq_true rfl) rfl rfl ?_
  refine zk_iconst (v := 0) hX dX6_numberThrowing_2 (by decide) ?_
  refine zk_istore (lo' := [_, _, _, _, _]) hX dX6_numberThrowing_3 (Nat.le_of_ble_eq_true rfl) rfl rfl ?_
  exact loop (zN_ D o (dF D)) 0 (by omega)

/-- joints that turn alike in all of them -/
def zalk (P : Nat → Bool) (tf : Nat → Nat → Int32) (n j : Nat) : Bool := !(zany (fun i => P i && zany (fun k => P k && !decide (tf i j = tf k j)) n) n)
theorem zalk_m {P : Nat → Bool} {tf : Nat → Nat → Int32} {n j : Nat} : zalk P tf n j = true ↔ ∀ i k, i < n → k < n → P i = true → P k = true → tf i j = tf k j := by
  unfold zalk
  rw [Bool.not_eq_true', ← Bool.not_eq_true, zany_m]
  constructor
  · intro h i k hi hk pi pk
    rcases Decidable.em (tf i j = tf k j) with q | q
    · exact q
    · refine absurd ⟨i, hi, ?_⟩ h
      rw [Bool.and_eq_true, zany_m]
      exact ⟨pi, k, hk, by rw [Bool.and_eq_true]; exact ⟨pk, by simp [q]⟩⟩
  · rintro h ⟨i, hi, q⟩
    rw [Bool.and_eq_true, zany_m] at q
    obtain ⟨pi, k, hk, q⟩ := q
    rw [Bool.and_eq_true] at q
    have := h i k hi hk pi q.1
    simp [this] at q
theorem zalk_f {P : Nat → Bool} {tf : Nat → Nat → Int32} {n j : Nat} (h : ¬ P n = true) : zalk P tf (n + 1) j = zalk P tf n j := by
  rw [Bool.eq_iff_iff, zalk_m, zalk_m]
  constructor
  · intro q i k hi hk
    exact q i k (by omega) (by omega)
  · intro q i k hi hk pi pk
    rcases Nat.lt_succ_iff_lt_or_eq.mp hi with g | rfl
    · rcases Nat.lt_succ_iff_lt_or_eq.mp hk with g2 | rfl
      · exact q i k g g2 pi pk
      · exact absurd pk h
    · exact absurd pi h
theorem zalk_t {P : Nat → Bool} {tf : Nat → Nat → Int32} {n j m : Nat} (h : P n = true) (hm : m ≤ n) (pm : P m = true) (hf : ∀ i, i < m → ¬ P i = true) : zalk P tf (n + 1) j = (zalk P tf n j && decide (tf n j = tf m j)) := by
  rw [Bool.eq_iff_iff, Bool.and_eq_true, zalk_m, zalk_m, decide_eq_true_eq]
  constructor
  · intro q
    exact ⟨fun i k hi hk => q i k (by omega) (by omega), q n m (by omega) (by omega) h pm⟩
  · rintro ⟨q, e⟩
    have key : ∀ i, i < n + 1 → P i = true → tf i j = tf m j := by
      intro i hi pi
      rcases Nat.lt_succ_iff_lt_or_eq.mp hi with g | rfl
      · rcases Nat.lt_or_ge m n with g2 | g2
        · exact q i m g g2 pi pm
        · exact absurd pi (hf i (by omega))
      · exact e
    intro i k hi hk pi pk
    rw [key i hi pi, key k hk pk]
theorem zbst_1 {P : Nat → Bool} {n b : Nat} (h : zbst P (fun _ => 0) n = some b) : ∀ i, i < b → ¬ P i = true := by
  induction n generalizing b with
  | zero => cases h
  | succ n ih =>
    by_cases q : P n = true
    · rcases zbst_ok P (fun _ => 0) n with ⟨e, h2⟩ | ⟨c, e, h2, h3, h4⟩
      · rw [zbst_n q e] at h
        cases h
        exact h2
      · rw [zbst_s q e, if_neg (Nat.lt_irrefl _)] at h
        exact ih (e.trans h)
    · rw [zbst_f q] at h
      exact ih h
theorem zbits_rm {P : Nat → Bool} {n j : Nat} (hj : j < n) : zbits P n ^^^ (zbits P n &&& (1 <<< j)) = zbits (fun i => P i && !decide (i = j)) n := by
  refine zbits_of (Nat.xor_lt_two_pow (zbits_lt P n) (Nat.lt_of_le_of_lt Nat.and_le_left (zbits_lt P n))) (fun i hi => ?_)
  rw [Nat.testBit_xor, Nat.testBit_and, zbits_bit, Nat.one_shiftLeft, Nat.testBit_two_pow]
  simp only [hi, decide_true, Bool.true_and]
  by_cases q : i = j
  · subst q
    cases P i <;> simp
  · have : ¬ j = i := fun z => q z.symm
    simp [q, this]
theorem zbits_1 (n : Nat) : zbits (fun _ => true) n = (1 <<< n) - 1 := by
  rw [Nat.one_shiftLeft]
  symm
  refine zbits_of (by have := Nat.two_pow_pos n; omega) (fun i hi => ?_)
  rw [Nat.testBit_two_pow_sub_one]
  simp [hi]
theorem s_X6_alikeJoints {G : zG} {w : zW} {D : zD} {z u v T k : Nat} {S : zS} (hw : zWf w) (hD : zDok D) (hH : cHd w 26 D) (hSt : cStep w D) (hT9 : T ≤ 99) (hT : cTab w D (-1)) (hR : cThr w D (-1) z u v (dF D)) (hC : zCe k) (hS : zHas w k S) :
    zEi G mX6_alikeJoints [.ref 131, .ref 26, .ref k, .int (nI T)] w (nI (zbits (zalk (rJ D (-1) z u v T S) (zcode_t D) (zN_ D (-1) (dF D))) (dJ D))) w := by
  have hN := hT.2.2
  have h6 := hD.1.2.2
  refine zC_of (lo := [_, _, _, _, _, _, _, _]) kcX6_alikeJoints (Nat.le_of_ble_eq_true rfl) rfl (fun X hX hE => ?_)
  have loop : ∀ m i (a : Value), i + m = zN_ D (-1) (dF D) → zk0 G X mX6_alikeJoints 17 [.ref 131, .ref 26, .ref k, .int (nI T), .int (nI (zbits (zalk (rJ D (-1) z u v T S) (zcode_t D) i) (dJ D))), .int (zoe (zbst (rJ D (-1) z u v T S) (fun _ => 0) i)), .int (nI i), a] [] w := by
    intro m
    induction m with
    | zero =>
      intro i a hi
      obtain rfl : i = zN_ D (-1) (dF D) := by omega
      refine zk_iload hX dX6_alikeJoints_17 rfl ?_
      refine zk_aload_n hX dX6_alikeJoints_19 rfl ?_
      refine zk_getI hX dX6_alikeJoints_20 flX6_9 k_131 z_131 ?_
      rw [hT.1]
      refine zk_icmp_ge (tgt := 107) hX dX6_alikeJoints_23 (by decide) (fun c23 => ?_) (fun c23 => ?_)
      rotate_left
      · exact absurd (nI_le (Nat.le_refl _) (by omega)) c23
      refine zk_iload hX dX6_alikeJoints_107 rfl ?_
      refine zk_iret hX hE rfl ⟨rfl, rfl⟩ dX6_alikeJoints_109 ⟨_, rfl, ?_⟩
      exact ⟨rfl, rfl⟩
    | succ m ih =>
      intro i a hi
      have h0 := fun a => ih (i + 1) a (by omega)
      by_cases q : rJ D (-1) z u v T S i = true
      · obtain ⟨b, hb, hb2, hb3, hb4⟩ : ∃ b, zbst (rJ D (-1) z u v T S) (fun _ => 0) (i + 1) = some b ∧ b ≤ i ∧ rJ D (-1) z u v T S b = true ∧ ((zbst (rJ D (-1) z u v T S) (fun _ => 0) i = none ∧ b = i) ∨ zbst (rJ D (-1) z u v T S) (fun _ => 0) i = some b) := by
          rcases zbst_ok (rJ D (-1) z u v T S) (fun _ => 0) i with ⟨e, h2⟩ | ⟨c, e, h2, h3, h4⟩
          · exact ⟨i, zbst_n q e, by omega, q, Or.inl ⟨e, rfl⟩⟩
          · exact ⟨c, by rw [zbst_s q e, if_neg (Nat.lt_irrefl _)], by omega, h3, Or.inr e⟩
        have hfst := zbst_1 hb
        rw [hb] at h0
        have inner : ∀ y j, j + y = dJ D → zk0 G X mX6_alikeJoints 54 [.ref 131, .ref 26, .ref k, .int (nI T), .int (nI (zbits (fun r => if r < j then zalk (rJ D (-1) z u v T S) (zcode_t D) (i + 1) r else zalk (rJ D (-1) z u v T S) (zcode_t D) i r) (dJ D))), .int (nI b), .int (nI i), .int (nI j)] [] w := by
          intro y
          induction y with
          | zero =>
            intro j hj
            obtain rfl : j = dJ D := by omega
            rw [zbits_c (R := zalk (rJ D (-1) z u v T S) (zcode_t D) (i + 1)) (fun r hr => if_pos hr)]
            refine zk_iload hX dX6_alikeJoints_54 rfl ?_
            refine zk_aload_n hX dX6_alikeJoints_56 rfl ?_
            refine zk_getI hX dX6_alikeJoints_57 flX6_67 k_26 z_26 ?_
            rw [hH.1.2.2]
            refine zk_icmp_ge (tgt := 101) hX dX6_alikeJoints_60 (by decide) (fun c60 => ?_) (fun c60 => ?_)
            rotate_left
            · exact absurd (nI_le (Nat.le_refl _) (by omega)) c60
            refine zk_iinc (lo' := [_, _, _, _, _, _, _, _]) hX dX6_alikeJoints_101 rfl (by first | exact zinc _ | exact rfl) (Nat.le_of_ble_eq_true rfl) rfl rfl ?_
            refine zk_goto (tgt := 17) hX dX6_alikeJoints_104 (by decide) ?_
            exact h0 _
          | succ y ih2 =>
            intro j hj
            have h9 := ih2 (j + 1) (by omega)
            have ek := zalk_t (tf := zcode_t D) (j := j) q hb2 hb3 hfst
            have ee : zcode_t D i j = zcode_t D b j → zbits (fun r => if r < j + 1 then zalk (rJ D (-1) z u v T S) (zcode_t D) (i + 1) r else zalk (rJ D (-1) z u v T S) (zcode_t D) i r) (dJ D) = zbits (fun r => if r < j then zalk (rJ D (-1) z u v T S) (zcode_t D) (i + 1) r else zalk (rJ D (-1) z u v T S) (zcode_t D) i r) (dJ D) := fun e => zbits_c (fun r hr => by
              rcases Nat.lt_trichotomy r j with g | g | g
              · rw [if_pos (by omega), if_pos g]
              · subst g
                rw [if_pos (by omega), if_neg (Nat.lt_irrefl _), ek]
                simp [e]
              · rw [if_neg (by omega), if_neg (by omega)])
            have en : ¬ zcode_t D i j = zcode_t D b j → zbits (fun r => if r < j + 1 then zalk (rJ D (-1) z u v T S) (zcode_t D) (i + 1) r else zalk (rJ D (-1) z u v T S) (zcode_t D) i r) (dJ D) = zbits (fun r => (if r < j then zalk (rJ D (-1) z u v T S) (zcode_t D) (i + 1) r else zalk (rJ D (-1) z u v T S) (zcode_t D) i r) && !decide (r = j)) (dJ D) := fun e => zbits_c (fun r hr => by
              rcases Nat.lt_trichotomy r j with g | g | g
              · have g1 : ¬ r = j := by omega
                rw [if_pos (by omega), if_pos g]
                simp [g1]
              · subst g
                rw [if_pos (by omega), ek]
                simp [e]
              · have g1 : ¬ r = j := by omega
                rw [if_neg (by omega), if_neg (by omega)]
                simp [g1])
            refine zk_iload hX dX6_alikeJoints_54 rfl ?_
            refine zk_aload_n hX dX6_alikeJoints_56 rfl ?_
            refine zk_getI hX dX6_alikeJoints_57 flX6_67 k_26 z_26 ?_
            rw [hH.1.2.2]
            refine zk_icmp_ge (tgt := 101) hX dX6_alikeJoints_60 (by decide) (fun c60 => ?_) (fun c60 => ?_)
            · exact absurd c60 (nI_ge (by omega) (by omega))
            refine zk_aload_n hX dX6_alikeJoints_63 rfl ?_
            refine zk_aload_n hX dX6_alikeJoints_64 rfl ?_
            refine zk_iload hX dX6_alikeJoints_65 rfl ?_
            refine zk_iload hX dX6_alikeJoints_67 rfl ?_
            refine zk_V3i hX dX6_alikeJoints_69 kcX6_turnAt mlX6_159 viX6_turnAt rfl k_131 z_131 (s_X6_turnAt hw hD hH hSt (by omega) (by omega)) (Nat.le_of_ble_eq_true rfl) rfl ?_
            refine zk_aload_n hX dX6_alikeJoints_72 rfl ?_
            refine zk_aload_n hX dX6_alikeJoints_73 rfl ?_
            refine zk_iload hX dX6_alikeJoints_74 rfl ?_
            refine zk_iload hX dX6_alikeJoints_76 rfl ?_
            refine zk_V3i hX dX6_alikeJoints_78 kcX6_turnAt mlX6_159 viX6_turnAt rfl k_131 z_131 (s_X6_turnAt hw hD hH hSt (by omega) (by omega)) (Nat.le_of_ble_eq_true rfl) rfl ?_
            refine zk_icmp_eq (tgt := 95) hX dX6_alikeJoints_81 (by decide) (fun c81 => ?_) (fun c81 => ?_)
            · refine zk_iinc (lo' := [_, _, _, _, _, _, _, _]) hX dX6_alikeJoints_95 rfl (by first | exact zinc _ | exact rfl) (Nat.le_of_ble_eq_true rfl) rfl rfl ?_
              refine zk_goto (tgt := 54) hX dX6_alikeJoints_98 (by decide) ?_
              first
              | (rw [ee c81] at h9; exact h9)
              | (rw [ee (Decidable.not_not.mp c81)] at h9; exact h9)
              | (rw [en c81] at h9; exact h9)
            · refine zk_iload hX dX6_alikeJoints_84 rfl ?_
              refine zk_iconst (v := 1) hX dX6_alikeJoints_86 (by decide) ?_
              refine zk_iload hX dX6_alikeJoints_87 rfl ?_
              rw [show (1 : Int32) = nI 1 from rfl]
              refine zk_ishl hX dX6_alikeJoints_89 ?_
              rw [nI_shl _ (by omega)]
              refine zk_iconst (v := -1) hX dX6_alikeJoints_90 (by decide) ?_
              refine zk_ixor hX dX6_alikeJoints_91 ?_
              refine zk_iand hX dX6_alikeJoints_92 ?_
              rw [nI_andnot, zbits_rm (by omega)]
              refine zk_istore (lo' := [_, _, _, _, _, _, _, _]) hX dX6_alikeJoints_93 (Nat.le_of_ble_eq_true rfl) rfl rfl ?_
              refine zk_iinc (lo' := [_, _, _, _, _, _, _, _]) hX dX6_alikeJoints_95 rfl (by first | exact zinc _ | exact rfl) (Nat.le_of_ble_eq_true rfl) rfl rfl ?_
              refine zk_goto (tgt := 54) hX dX6_alikeJoints_98 (by decide) ?_
              first
              | (rw [ee c81] at h9; exact h9)
              | (rw [ee (Decidable.not_not.mp c81)] at h9; exact h9)
              | (rw [en c81] at h9; exact h9)
        have hin0 := inner (dJ D) 0 (by omega)
        rw [zbits_c (R := zalk (rJ D (-1) z u v T S) (zcode_t D) i) (fun r hr => if_neg (by omega))] at hin0
        rcases hb4 with ⟨e, rfl⟩ | e
        · rw [e]
          refine zk_iload hX dX6_alikeJoints_17 rfl ?_
          refine zk_aload_n hX dX6_alikeJoints_19 rfl ?_
          refine zk_getI hX dX6_alikeJoints_20 flX6_9 k_131 z_131 ?_
          rw [hT.1]
          refine zk_icmp_ge (tgt := 107) hX dX6_alikeJoints_23 (by decide) (fun c23 => ?_) (fun c23 => ?_)
          · exact absurd c23 (nI_ge (by omega) (by omega))
          refine zk_aload_n hX dX6_alikeJoints_26 rfl ?_
          refine zk_iload hX dX6_alikeJoints_27 rfl ?_
          refine zk_aload_n hX dX6_alikeJoints_29 rfl ?_
          refine zk_iload_n hX dX6_alikeJoints_30 rfl ?_
          refine zk_V3i hX dX6_alikeJoints_31 kcX6_throwsJust mlX6_177 viX6_throwsJust rfl k_131 z_131 (s_X6_throwsJust hw hD hT9 hT hR hC hS (by omega)) (Nat.le_of_ble_eq_true rfl) rfl ?_
          refine zk_if_neB (tgt := 40) hX dX6_alikeJoints_34 (by decide) (fun c34 => ?_) (fun c34 => ?_)
          rotate_left
          · exact absurd q c34
          refine zk_iload hX dX6_alikeJoints_40 rfl ?_
          refine zk_bipush (v := -9) hX dX6_alikeJoints_42 (by decide) ?_
          refine zk_icmp_ne (tgt := 51) hX dX6_alikeJoints_44 (by decide) (fun c44 => ?_) (fun c44 => ?_)
          · exact absurd c44 (fun c => c rfl)
          refine zk_iload hX dX6_alikeJoints_47 rfl ?_
          refine zk_istore (lo' := [_, _, _, _, _, _, _, _]) hX dX6_alikeJoints_49 (Nat.le_of_ble_eq_true rfl) rfl rfl ?_
          refine zk_iconst (v := 0) hX dX6_alikeJoints_51 (by decide) ?_
          refine zk_istore (lo' := [_, _, _, _, _, _, _, _]) hX dX6_alikeJoints_52 (Nat.le_of_ble_eq_true rfl) rfl rfl ?_
          exact hin0
        · rw [e]
          refine zk_iload hX dX6_alikeJoints_17 rfl ?_
          refine zk_aload_n hX dX6_alikeJoints_19 rfl ?_
          refine zk_getI hX dX6_alikeJoints_20 flX6_9 k_131 z_131 ?_
          rw [hT.1]
          refine zk_icmp_ge (tgt := 107) hX dX6_alikeJoints_23 (by decide) (fun c23 => ?_) (fun c23 => ?_)
          · exact absurd c23 (nI_ge (by omega) (by omega))
          refine zk_aload_n hX dX6_alikeJoints_26 rfl ?_
          refine zk_iload hX dX6_alikeJoints_27 rfl ?_
          refine zk_aload_n hX dX6_alikeJoints_29 rfl ?_
          refine zk_iload_n hX dX6_alikeJoints_30 rfl ?_
          refine zk_V3i hX dX6_alikeJoints_31 kcX6_throwsJust mlX6_177 viX6_throwsJust rfl k_131 z_131 (s_X6_throwsJust hw hD hT9 hT hR hC hS (by omega)) (Nat.le_of_ble_eq_true rfl) rfl ?_
          refine zk_if_neB (tgt := 40) hX dX6_alikeJoints_34 (by decide) (fun c34 => ?_) (fun c34 => ?_)
          rotate_left
          · exact absurd q c34
          refine zk_iload hX dX6_alikeJoints_40 rfl ?_
          refine zk_bipush (v := -9) hX dX6_alikeJoints_42 (by decide) ?_
          refine zk_icmp_ne (tgt := 51) hX dX6_alikeJoints_44 (by decide) (fun c44 => ?_) (fun c44 => ?_)
          rotate_left
          · exact absurd c44 (nI_n9 (by omega))
          refine zk_iconst (v := 0) hX dX6_alikeJoints_51 (by decide) ?_
          refine zk_istore (lo' := [_, _, _, _, _, _, _, _]) hX dX6_alikeJoints_52 (Nat.le_of_ble_eq_true rfl) rfl rfl ?_
          exact hin0
      · have e1 : zbst (rJ D (-1) z u v T S) (fun _ => 0) (i + 1) = zbst (rJ D (-1) z u v T S) (fun _ => 0) i := zbst_f q
        have e2 : zbits (zalk (rJ D (-1) z u v T S) (zcode_t D) (i + 1)) (dJ D) = zbits (zalk (rJ D (-1) z u v T S) (zcode_t D) i) (dJ D) := zbits_c (fun r _ => zalk_f q)
        rw [e1, e2] at h0
        refine zk_iload hX dX6_alikeJoints_17 rfl ?_
        refine zk_aload_n hX dX6_alikeJoints_19 rfl ?_
        refine zk_getI hX dX6_alikeJoints_20 flX6_9 k_131 z_131 ?_
        rw [hT.1]
        refine zk_icmp_ge (tgt := 107) hX dX6_alikeJoints_23 (by decide) (fun c23 => ?_) (fun c23 => ?_)
        · exact absurd c23 (nI_ge (by omega) (by omega))
        refine zk_aload_n hX dX6_alikeJoints_26 rfl ?_
        refine zk_iload hX dX6_alikeJoints_27 rfl ?_
        refine zk_aload_n hX dX6_alikeJoints_29 rfl ?_
        refine zk_iload_n hX dX6_alikeJoints_30 rfl ?_
        refine zk_V3i hX dX6_alikeJoints_31 kcX6_throwsJust mlX6_177 viX6_throwsJust rfl k_131 z_131 (s_X6_throwsJust hw hD hT9 hT hR hC hS (by omega)) (Nat.le_of_ble_eq_true rfl) rfl ?_
        refine zk_if_neB (tgt := 40) hX dX6_alikeJoints_34 (by decide) (fun c34 => ?_) (fun c34 => ?_)
        · exact absurd c34 q
        refine zk_goto (tgt := 101) hX dX6_alikeJoints_37 (by decide) ?_
        refine zk_iinc (lo' := [_, _, _, _, _, _, _, _]) hX dX6_alikeJoints_101 rfl (by first | exact zinc _ | exact rfl) (Nat.le_of_ble_eq_true rfl) rfl rfl ?_
        refine zk_goto (tgt := 17) hX dX6_alikeJoints_104 (by decide) ?_
        exact h0 _
  have h0 := fun a => loop (zN_ D (-1) (dF D)) 0 a (by omega)
  rw [show zalk (rJ D (-1) z u v T S) (zcode_t D) 0 = fun _ => true from rfl, zbits_1] at h0
  refine zk_iconst (v := 1) hX dX6_alikeJoints_0 (by decide) ?_
  refine zk_aload_n hX dX6_alikeJoints_1 rfl ?_
  refine zk_getI hX dX6_alikeJoints_2 flX6_67 k_26 z_26 ?_
  rw [hH.1.2.2, show (1 : Int32) = nI 1 from rfl]
  refine zk_ishl hX dX6_alikeJoints_5 ?_
  rw [nI_shl _ (by omega)]
  refine zk_iconst (v := 1) hX dX6_alikeJoints_6 (by decide) ?_
  refine zk_isub hX dX6_alikeJoints_7 ?_
  rw [show (1 : Int32) = nI 1 from rfl, nI_sub (by rw [Nat.one_shiftLeft]; exact Nat.two_pow_pos _)]
  refine zk_istore (lo' := [_, _, _, _, _, _, _, _]) hX dX6_alikeJoints_8 (Nat.le_of_ble_eq_true rfl) rfl rfl ?_
  refine zk_bipush (v := -9) hX dX6_alikeJoints_10 (by decide) ?_
  refine zk_istore (lo' := [_, _, _, _, _, _, _, _]) hX dX6_alikeJoints_12 (Nat.le_of_ble_eq_true rfl) rfl rfl ?_
  refine zk_iconst (v := 0) hX dX6_alikeJoints_14 (by decide) ?_
  refine zk_istore (lo' := [_, _, _, _, _, _, _, _]) hX dX6_alikeJoints_15 (Nat.le_of_ble_eq_true rfl) rfl rfl ?_
  exact h0 _

