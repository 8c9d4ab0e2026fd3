def ffar (F : Nat → Option Nat) (O : Nat → Bool) (v : Nat) : Int32 := match F v with
  | some m => nI m
  | none => if O v = true then -1 else -2
theorem s_X10_farOf {G : zG} {w : zW} (hw : zWf w) {v : Nat} (hv : v < 4096) : zEi G mX10_farOf [.ref 147, .int (nI v)] w (w.1 148 v) w := by
  refine zC_of (lo := [_, _]) kcX10_farOf (Nat.le_of_ble_eq_true rfl) rfl (fun X hX hE => ?_)
  refine zk_iload_n hX dX10_farOf_0 rfl ?_
  refine zk_if_lt (tgt := 11) hX dX10_farOf_1 (by decide) (fun c1 => ?_) (fun c1 => ?_)
  · exact absurd c1 (nI_pos (by omega))
  refine zk_iload_n hX dX10_farOf_4 rfl ?_
  refine zk_sipush (v := 4096) hX dX10_farOf_5 (by decide) ?_
  refine zk_icmp_lt (tgt := 16) hX dX10_farOf_8 (by decide) (fun c8 => ?_) (fun c8 => ?_)
  rotate_left
  · exact absurd (nI_lt (b := 4096) hv (by decide)) c8
  refine zk_aload_n hX dX10_farOf_16 rfl ?_
  refine zk_getR hX dX10_farOf_17 flX10_9 k_147 z_147 (hw _ _ (by decide) |>.trans r_147_0) ?_
  refine zk_iload_n hX dX10_farOf_20 rfl ?_
  refine zk_ialdE hX dX10_farOf_21 rfl k_148 z_148 (by first | assumption | omega) rfl ?_
  refine zk_iret hX hE rfl ⟨rfl, rfl⟩ dX10_farOf_22 ⟨_, rfl, ?_⟩
  exact ⟨rfl, rfl⟩
theorem s_X10_farOf_n {G : zG} {w : zW} : zEi G mX10_farOf [.ref 147, .int (-9)] w (-2) w := by
  refine zC_of (lo := [_, _]) kcX10_farOf (Nat.le_of_ble_eq_true rfl) rfl (fun X hX hE => ?_)
  refine zk_iload_n hX dX10_farOf_0 rfl ?_
  refine zk_if_lt (tgt := 11) hX dX10_farOf_1 (by decide) (fun c1 => ?_) (fun c1 => ?_)
  rotate_left
  · exact absurd (by decide) c1
  refine zk_bipush (v := -2) hX dX10_farOf_11 (by decide) ?_
  refine zk_goto (tgt := 22) hX dX10_farOf_13 (by decide) ?_
  refine zk_iret hX hE rfl ⟨rfl, rfl⟩ dX10_farOf_22 ⟨_, rfl, ?_⟩
  exact ⟨rfl, rfl⟩
theorem s_X10_openHeld {G : zG} {w : zW} {D : zD} {o : Int32} {T : Nat} (hw : zWf w) (hD : zDok D) (hT : cTab w D o) (hT9 : T ≤ 99) : zCv G mX10_openHeld [.ref 147, .ref 131, .int (nI T)] w (fun w' => zFr [148] [] [] w w' ∧ ∀ v, v < 4096 → w'.1 148 v = if rH D o T v = true then -1 else -2) := by
  refine zC_of (lo := [_, _, _, _]) kcX10_openHeld (Nat.le_of_ble_eq_true rfl) rfl (fun X hX hE => ?_)
  have loop : ∀ z i w1, i + z = 4096 → zFr [148] [] [] w w1 → (∀ v, v < i → w1.1 148 v = if rH D o T v = true then -1 else -2) → zk0 G X mX10_openHeld 2 [.ref 147, .ref 131, .int (nI T), .int (nI i)] [] w1 := by
    intro z
    induction z with
    | zero =>
      intro i w1 hi hF h
      obtain rfl : i = 4096 := by omega
      refine zk_iload_n hX dX10_openHeld_2 rfl ?_
      refine zk_sipush (v := 4096) hX dX10_openHeld_3 (by decide) ?_
      refine zk_icmp_ge (tgt := 36) hX dX10_openHeld_6 (by decide) (fun c6 => ?_) (fun c6 => ?_)
      rotate_left
      · exact absurd (by decide) c6
      refine zk_vret hX hE rfl ⟨rfl, rfl⟩ dX10_openHeld_36 ⟨rfl, ?_⟩
      exact ⟨hF, h⟩
    | succ z ih =>
      intro i w1 hi hF h
      have hw1 := zFr_wf hF hw
      have hT1 := cTab_f hT hF (by decide)
      have step : ∀ x, x = (if rH D o T i = true then -1 else -2) → zk0 G X mX10_openHeld 30 [.ref 147, .ref 131, .int (nI T), .int (nI i)] [] (zsi w1 148 i x) := by
        intro x hx
        refine zk_iinc (lo' := [_, _, _, _]) hX dX10_openHeld_30 rfl (by first | exact zinc _ | exact rfl) (Nat.le_of_ble_eq_true rfl) rfl rfl ?_
        refine zk_goto (tgt := 2) hX dX10_openHeld_33 (by decide) ?_
        refine ih (i + 1) _ (by omega) (zFr_t hF (zFr_i (by decide) (by decide))) (fun v hv => ?_)
        rw [zsi_1]
        by_cases q : v = i
        · rw [if_pos ⟨rfl, q⟩, hx, q]
        · rw [if_neg (fun z => q z.2)]
          exact h v (by omega)
      refine zk_iload_n hX dX10_openHeld_2 rfl ?_
      refine zk_sipush (v := 4096) hX dX10_openHeld_3 (by decide) ?_
      refine zk_icmp_ge (tgt := 36) hX dX10_openHeld_6 (by decide) (fun c6 => ?_) (fun c6 => ?_)
      · exact absurd c6 (nI_ge (b := 4096) (by omega) (by decide))
      refine zk_aload_n hX dX10_openHeld_9 rfl ?_
      refine zk_getR hX dX10_openHeld_10 flX10_9 k_147 z_147 (hw1 _ _ (by decide) |>.trans r_147_0) ?_
      refine zk_iload_n hX dX10_openHeld_13 rfl ?_
      refine zk_aload_n hX dX10_openHeld_14 rfl ?_
      refine zk_iload_n hX dX10_openHeld_15 rfl ?_
      refine zk_iload_n hX dX10_openHeld_16 rfl ?_
      refine zk_V2i hX dX10_openHeld_17 kcX6_isHeld mlX10_35 viX6_isHeld rfl k_131 z_131 (s_X6_isHeld hw1 hD hT1 hT9 (by omega)) (Nat.le_of_ble_eq_true rfl) rfl ?_
      refine zk_if_eqB (tgt := 27) hX dX10_openHeld_20 (by decide) (fun c20 => ?_) (fun c20 => ?_)
      · refine zk_bipush (v := -2) hX dX10_openHeld_27 (by decide) ?_
        refine zk_iastE hX dX10_openHeld_29 rfl k_148 z_148 (by first | assumption | omega) rfl ?_
        first | exact step _ (by rw [if_pos (by first | exact c20 | exact Decidable.not_not.mp c20)]) | exact step _ (by rw [if_neg c20])
      · refine zk_iconst (v := -1) hX dX10_openHeld_23 (by decide) ?_
        refine zk_goto (tgt := 29) hX dX10_openHeld_24 (by decide) ?_
        refine zk_iastE hX dX10_openHeld_29 rfl k_148 z_148 (by first | assumption | omega) rfl ?_
        first | exact step _ (by rw [if_pos (by first | exact c20 | exact Decidable.not_not.mp c20)]) | exact step _ (by rw [if_neg c20])
  refine zk_iconst (v := 0) hX dX10_openHeld_0 (by decide) ?_
  refine zk_istore_n (lo' := [_, _, _, _]) hX dX10_openHeld_1 (Nat.le_of_ble_eq_true rfl) rfl rfl ?_
  exact loop 4096 0 w (by omega) zFr_r (fun v hv => absurd hv (by omega))
theorem s_X10_closeSeen {G : zG} {w : zW} {D : zD} {o : Int32} {k z u v p q d : Nat} {M Y : zS} {O : Nat → Bool} (hw : zWf w) (hT : cTab w D o) (hR : cThr w D o z u v (dF D)) (hk : k < 6) (hB : cBe w k M Y) (hp : p < 5000) (hq : q < 5000) (hd : d < 5000)
    (hO : ∀ v, v < 4096 → w.1 148 v = if O v = true then -1 else -2) (hON : ∀ v, O v = true → v < zN_ D o (dF D)) :
    zCv G mX10_closeSeen [.ref 147, .ref 131, .ref (96 + 3 * k), .int (nI d), .int (nI p), .int (nI q)] w (fun w' => zFr [148] [] [] w w' ∧ ∀ a, a < 4096 → w'.1 148 a = if (O a && (decide (a = p) || decide (a = q) || decide (d < rO D o z u v M Y a))) = true then -1 else -2) := by
  have hN := hT.2.2
  refine zC_of (lo := [_, _, _, _, _, _, _]) kcX10_closeSeen (Nat.le_of_ble_eq_true rfl) rfl (fun X hX hE => ?_)
  have loop : ∀ m i w1, i + m = 4096 → zFr [148] [] [] w w1 → (∀ a, i ≤ a → w1.1 148 a = w.1 148 a) → (∀ a, a < i → w1.1 148 a = if (O a && (decide (a = p) || decide (a = q) || decide (d < rO D o z u v M Y a))) = true then -1 else -2) → zk0 G X mX10_closeSeen 3 [.ref 147, .ref 131, .ref (96 + 3 * k), .int (nI d), .int (nI p), .int (nI q), .int (nI i)] [] w1 := by
    intro m
    induction m with
    | zero =>
      intro i w1 hi hF _ h
      obtain rfl : i = 4096 := by omega
      refine zk_iload hX dX10_closeSeen_3 rfl ?_
      refine zk_sipush (v := 4096) hX dX10_closeSeen_5 (by decide) ?_
      refine zk_icmp_ge (tgt := 62) hX dX10_closeSeen_8 (by decide) (fun c8 => ?_) (fun c8 => ?_)
      rotate_left
      · exact absurd (by decide) c8
      refine zk_vret hX hE rfl ⟨rfl, rfl⟩ dX10_closeSeen_62 ⟨rfl, ?_⟩
      exact ⟨hF, h⟩
    | succ m ih =>
      intro i w1 hi hF g h
      have hw1 := zFr_wf hF hw
      have hT1 := cTab_f hT hF (by decide)
      have hR1 := cThr_f hR hF (by decide)
      have hB1 : cBe w1 k M Y := ⟨zHas_o hB.1 (hF.2.2.1 _ (by simp)), zHas_o hB.2 (hF.2.2.1 _ (by simp))⟩
      have gi := g i (Nat.le_refl _)
      rw [hO i (by omega)] at gi
      have hl := zofB_le M Y (zthr z u v (zdkL zno (rL D o (dF D) i)))
      have keep : (w1.1 148 i = if (O i && (decide (i = p) || decide (i = q) || decide (d < rO D o z u v M Y i))) = true then -1 else -2) → zk0 G X mX10_closeSeen 56 [.ref 147, .ref 131, .ref (96 + 3 * k), .int (nI d), .int (nI p), .int (nI q), .int (nI i)] [] w1 := by
        intro e
        refine zk_iinc (lo' := [_, _, _, _, _, _, _]) hX dX10_closeSeen_56 rfl (by first | exact zinc _ | exact rfl) (Nat.le_of_ble_eq_true rfl) rfl rfl ?_
        refine zk_goto (tgt := 3) hX dX10_closeSeen_59 (by decide) ?_
        refine ih (i + 1) w1 (by omega) hF (fun a ha => g a (by omega)) (fun a ha => ?_)
        rcases Nat.lt_succ_iff_lt_or_eq.mp ha with q | rfl
        · exact h a q
        · exact e
      have close : (if (O i && (decide (i = p) || decide (i = q) || decide (d < rO D o z u v M Y i))) = true then (-1 : Int32) else -2) = -2 → zk0 G X mX10_closeSeen 56 [.ref 147, .ref 131, .ref (96 + 3 * k), .int (nI d), .int (nI p), .int (nI q), .int (nI i)] [] (zsi w1 148 i (-2)) := by
        intro e
        refine zk_iinc (lo' := [_, _, _, _, _, _, _]) hX dX10_closeSeen_56 rfl (by first | exact zinc _ | exact rfl) (Nat.le_of_ble_eq_true rfl) rfl rfl ?_
        refine zk_goto (tgt := 3) hX dX10_closeSeen_59 (by decide) ?_
        refine ih (i + 1) _ (by omega) (zFr_t hF (zFr_i (by decide) (by decide))) (fun a ha => ?_) (fun a ha => ?_)
        · rw [zsi_1, if_neg (by omega)]
          exact g a (by omega)
        · rw [zsi_1]
          rcases Nat.lt_succ_iff_lt_or_eq.mp ha with q | rfl
          · rw [if_neg (by omega)]
            exact h a q
          · rw [if_pos ⟨rfl, rfl⟩, e]
      by_cases hOi : O i = true
      · rw [if_pos hOi] at gi
        have hiN := hON i hOi
        have co := s_X6_offOf (G := G) hw1 hT1 hR1 hk hB1 (some i) (fun b hb => by cases hb; exact hiN)
        refine zk_iload hX dX10_closeSeen_3 rfl ?_
        refine zk_sipush (v := 4096) hX dX10_closeSeen_5 (by decide) ?_
        refine zk_icmp_ge (tgt := 62) hX dX10_closeSeen_8 (by decide) (fun c8 => ?_) (fun c8 => ?_)
        · exact absurd c8 (nI_ge (b := 4096) (by omega) (by decide))
        refine zk_aload_n hX dX10_closeSeen_11 rfl ?_
        refine zk_getR hX dX10_closeSeen_12 flX10_9 k_147 z_147 (hw1 _ _ (by decide) |>.trans r_147_0) ?_
        refine zk_iload hX dX10_closeSeen_15 rfl ?_
        refine zk_ialdE hX dX10_closeSeen_17 rfl k_148 z_148 (by omega) rfl ?_
        rw [gi]
        refine zk_iconst (v := -1) hX dX10_closeSeen_18 (by decide) ?_
        refine zk_icmp_ne (tgt := 56) hX dX10_closeSeen_19 (by decide) (fun c19 => ?_) (fun c19 => ?_)
        · exact absurd c19 (fun c => c rfl)
        refine zk_iload hX dX10_closeSeen_22 rfl ?_
        refine zk_iload hX dX10_closeSeen_24 rfl ?_
        refine zk_icmp_eq (tgt := 56) hX dX10_closeSeen_26 (by decide) (fun c26 => ?_) (fun c26 => ?_)
        · first
          | exact keep (by rw [gi, hOi, decide_eq_true ((nI_eq (by omega) (by omega)).mp c26)]; rfl)
          | exact keep (by rw [gi, hOi, decide_eq_true ((nI_eq (by omega) (by omega)).mp c33), Bool.or_true]; rfl)
          | exact keep (by rw [gi, hOi, decide_eq_true (show d < rO D o z u v M Y i from (nI_ltI (by omega) (by unfold rO; omega)).mp c44), Bool.or_true]; rfl)
          | exact close (by
              rw [hOi, decide_eq_false (fun e => c26 (by rw [e])), decide_eq_false (fun e => c33 (by rw [e])), decide_eq_false (fun e => c44 (nI_lt e (by unfold rO; omega)))]
              rfl)
        · refine zk_iload hX dX10_closeSeen_29 rfl ?_
          refine zk_iload hX dX10_closeSeen_31 rfl ?_
          refine zk_icmp_eq (tgt := 56) hX dX10_closeSeen_33 (by decide) (fun c33 => ?_) (fun c33 => ?_)
          · first
            | exact keep (by rw [gi, hOi, decide_eq_true ((nI_eq (by omega) (by omega)).mp c26)]; rfl)
            | exact keep (by rw [gi, hOi, decide_eq_true ((nI_eq (by omega) (by omega)).mp c33), Bool.or_true]; rfl)
            | exact keep (by rw [gi, hOi, decide_eq_true (show d < rO D o z u v M Y i from (nI_ltI (by omega) (by unfold rO; omega)).mp c44), Bool.or_true]; rfl)
            | exact close (by
                rw [hOi, decide_eq_false (fun e => c26 (by rw [e])), decide_eq_false (fun e => c33 (by rw [e])), decide_eq_false (fun e => c44 (nI_lt e (by unfold rO; omega)))]
                rfl)
          · refine zk_aload_n hX dX10_closeSeen_36 rfl ?_
            refine zk_aload_n hX dX10_closeSeen_37 rfl ?_
            refine zk_iload hX dX10_closeSeen_38 rfl ?_
            refine zk_V2i hX dX10_closeSeen_40 kcX6_offOf mlX10_41 viX6_offOf rfl k_131 z_131 co (Nat.le_of_ble_eq_true rfl) rfl ?_
            refine zk_iload_n hX dX10_closeSeen_43 rfl ?_
            refine zk_icmp_gt (tgt := 56) hX dX10_closeSeen_44 (by decide) (fun c44 => ?_) (fun c44 => ?_)
            · first
              | exact keep (by rw [gi, hOi, decide_eq_true ((nI_eq (by omega) (by omega)).mp c26)]; rfl)
              | exact keep (by rw [gi, hOi, decide_eq_true ((nI_eq (by omega) (by omega)).mp c33), Bool.or_true]; rfl)
              | exact keep (by rw [gi, hOi, decide_eq_true (show d < rO D o z u v M Y i from (nI_ltI (by omega) (by unfold rO; omega)).mp c44), Bool.or_true]; rfl)
              | exact close (by
                  rw [hOi, decide_eq_false (fun e => c26 (by rw [e])), decide_eq_false (fun e => c33 (by rw [e])), decide_eq_false (fun e => c44 (nI_lt e (by unfold rO; omega)))]
                  rfl)
            · refine zk_aload_n hX dX10_closeSeen_47 rfl ?_
              refine zk_getR hX dX10_closeSeen_48 flX10_9 k_147 z_147 (hw1 _ _ (by decide) |>.trans r_147_0) ?_
              refine zk_iload hX dX10_closeSeen_51 rfl ?_
              refine zk_bipush (v := -2) hX dX10_closeSeen_53 (by decide) ?_
              refine zk_iastE hX dX10_closeSeen_55 rfl k_148 z_148 (by omega) rfl ?_
              first
              | exact keep (by rw [gi, hOi, decide_eq_true ((nI_eq (by omega) (by omega)).mp c26)]; rfl)
              | exact keep (by rw [gi, hOi, decide_eq_true ((nI_eq (by omega) (by omega)).mp c33), Bool.or_true]; rfl)
              | exact keep (by rw [gi, hOi, decide_eq_true (show d < rO D o z u v M Y i from (nI_ltI (by omega) (by unfold rO; omega)).mp c44), Bool.or_true]; rfl)
              | exact close (by
                  rw [hOi, decide_eq_false (fun e => c26 (by rw [e])), decide_eq_false (fun e => c33 (by rw [e])), decide_eq_false (fun e => c44 (nI_lt e (by unfold rO; omega)))]
                  rfl)
      · rw [if_neg hOi] at gi
        refine zk_iload hX dX10_closeSeen_3 rfl ?_
        refine zk_sipush (v := 4096) hX dX10_closeSeen_5 (by decide) ?_
        refine zk_icmp_ge (tgt := 62) hX dX10_closeSeen_8 (by decide) (fun c8 => ?_) (fun c8 => ?_)
        · exact absurd c8 (nI_ge (b := 4096) (by omega) (by decide))
        refine zk_aload_n hX dX10_closeSeen_11 rfl ?_
        refine zk_getR hX dX10_closeSeen_12 flX10_9 k_147 z_147 (hw1 _ _ (by decide) |>.trans r_147_0) ?_
        refine zk_iload hX dX10_closeSeen_15 rfl ?_
        refine zk_ialdE hX dX10_closeSeen_17 rfl k_148 z_148 (by omega) rfl ?_
        rw [gi]
        refine zk_iconst (v := -1) hX dX10_closeSeen_18 (by decide) ?_
        refine zk_icmp_ne (tgt := 56) hX dX10_closeSeen_19 (by decide) (fun c19 => ?_) (fun c19 => ?_)
        rotate_left
        · exact absurd c19 (by decide)
        exact keep (by rw [gi, if_neg (fun e => by rw [Bool.and_eq_true] at e; exact hOi e.1)])
  refine zk_iconst (v := 0) hX dX10_closeSeen_0 (by decide) ?_
  refine zk_istore (lo' := [_, _, _, _, _, _, _]) hX dX10_closeSeen_1 (Nat.le_of_ble_eq_true rfl) rfl rfl ?_
  exact loop 4096 0 w (by omega) zFr_r (fun a _ => rfl) (fun a ha => absurd ha (by omega))
def zcome (w : zW) (v c n : Nat) : zW := zsi (zsi (zsi w 148 v (nI c)) 149 n (nI v)) 147 2 (nI (n + 1))
theorem s_X10_come_y {G : zG} {w : zW} (hw : zWf w) {v c n : Nat} (hv : v < 4096) (hn : n < 4096) (hq : w.1 147 2 = nI n) (hf : w.1 148 v = -1) : zEv G mX10_come [.ref 147, .int (nI v), .int (nI c)] w (zcome w v c n) := by
  refine zC_of (lo := [_, _, _]) kcX10_come (Nat.le_of_ble_eq_true rfl) rfl (fun X hX hE => ?_)
  refine zk_aload_n hX dX10_come_0 rfl ?_
  refine zk_iload_n hX dX10_come_1 rfl ?_
  refine zk_V1i hX dX10_come_2 kcX10_farOf mlX10_49 viX10_farOf rfl k_147 z_147 (s_X10_farOf hw hv) (Nat.le_of_ble_eq_true rfl) rfl ?_
  rw [hf]
  refine zk_iconst (v := -1) hX dX10_come_5 (by decide) ?_
  refine zk_icmp_ne (tgt := 19) hX dX10_come_6 (by decide) (fun c6 => ?_) (fun c6 => ?_)
  · exact absurd c6 (fun q => q rfl)
  refine zk_aload_n hX dX10_come_9 rfl ?_
  refine zk_getI hX dX10_come_10 flX10_53 k_147 z_147 ?_
  rw [hq]
  refine zk_sipush (v := 4096) hX dX10_come_13 (by decide) ?_
  refine zk_icmp_lt (tgt := 20) hX dX10_come_16 (by decide) (fun c16 => ?_) (fun c16 => ?_)
  rotate_left
  · exact absurd (nI_lt (b := 4096) hn (by decide)) c16
  refine zk_aload_n hX dX10_come_20 rfl ?_
  refine zk_getR hX dX10_come_21 flX10_9 k_147 z_147 (hw _ _ (by decide) |>.trans r_147_0) ?_
  refine zk_iload_n hX dX10_come_24 rfl ?_
  refine zk_iload_n hX dX10_come_25 rfl ?_
  refine zk_iastE hX dX10_come_26 rfl k_148 z_148 (by first | assumption | omega) rfl ?_
  refine zk_aload_n hX dX10_come_27 rfl ?_
  refine zk_getR hX dX10_come_28 flX10_15 k_147 z_147 ((zWf_i hw) _ _ (by decide) |>.trans r_147_1) ?_
  refine zk_aload_n hX dX10_come_31 rfl ?_
  refine zk_getI hX dX10_come_32 flX10_53 k_147 z_147 ?_
  rw [zsi_1, if_neg (by omega), hq]
  refine zk_iload_n hX dX10_come_35 rfl ?_
  refine zk_iastE hX dX10_come_36 rfl k_149 z_149 (by first | assumption | omega) rfl ?_
  refine zk_aload_n hX dX10_come_37 rfl ?_
  refine zk_dup hX dX10_come_38 rfl ?_
  refine zk_getI hX dX10_come_39 flX10_53 k_147 z_147 ?_
  rw [zsi_1, if_neg (by omega), zsi_1, if_neg (by omega), hq]
  refine zk_iconst (v := 1) hX dX10_come_42 (by decide) ?_
  refine zk_iadd hX dX10_come_43 ?_
  rw [← nI_succ]
  refine zk_putI hX dX10_come_44 plX10_53 (fun h => by cases h) k_147 z_147 rfl rfl ?_
  refine zk_vret hX hE rfl ⟨rfl, rfl⟩ dX10_come_47 ⟨rfl, ?_⟩
  rfl
theorem s_X10_come_n {G : zG} {w : zW} (hw : zWf w) {v : Nat} (c : Int32) (hv : v < 4096) (hf : ¬ w.1 148 v = -1) : zEv G mX10_come [.ref 147, .int (nI v), .int c] w w := by
  refine zC_of (lo := [_, _, _]) kcX10_come (Nat.le_of_ble_eq_true rfl) rfl (fun X hX hE => ?_)
  refine zk_aload_n hX dX10_come_0 rfl ?_
  refine zk_iload_n hX dX10_come_1 rfl ?_
  refine zk_V1i hX dX10_come_2 kcX10_farOf mlX10_49 viX10_farOf rfl k_147 z_147 (s_X10_farOf hw hv) (Nat.le_of_ble_eq_true rfl) rfl ?_
  refine zk_iconst (v := -1) hX dX10_come_5 (by decide) ?_
  refine zk_icmp_ne (tgt := 19) hX dX10_come_6 (by decide) (fun c6 => ?_) (fun c6 => ?_)
  rotate_left
  · exact absurd c6 hf
  refine zk_vret hX hE rfl ⟨rfl, rfl⟩ dX10_come_19 ⟨rfl, ?_⟩
  rfl
/-- a search's cells -/
def cBF (w : zW) (F : Nat → Option Nat) (O : Nat → Bool) (Q : Nat → Nat) (n : Nat) : Prop := (∀ v, v < 4096 → w.1 148 v = ffar F O v) ∧ (∀ i, i < n → w.1 149 i = nI (Q i)) ∧ w.1 147 2 = nI n
def cBJ (w : zW) (E : Nat → Nat → Prop) (O : Nat → Bool) (p N h ic c : Nat) (F : Nat → Option Nat) (Q : Nat → Nat) (n : Nat) : Prop := zBI E O p N F Q n h ∧ h < n ∧ Q h = ic ∧ zfd F ic = c ∧ cBF w F O Q n
theorem ffar_none {F : Nat → Option Nat} {O : Nat → Bool} {v : Nat} (h : ffar F O v = -1) (hm : ∀ m, F v = some m → m < 5000) : F v = none ∧ O v = true := by
  unfold ffar at h
  cases e : F v with
  | none =>
    rw [e] at h
    refine ⟨rfl, ?_⟩
    by_cases q : O v = true
    · exact q
    · rw [if_neg q] at h
      exact absurd h (by decide)
  | some m =>
    rw [e] at h
    have h1 := hm m e
    exact absurd h (fun q => by
      have q1 : (0 : Int32) ≤ nI m := nI_pos' (by omega)
      have q2 : nI m = -1 := q
      rw [q2] at q1
      exact absurd q1 (by decide))
theorem s_X10_come {G : zG} {w : zW} {E : Nat → Nat → Prop} {O : Nat → Bool} {p N h ic c : Nat} {F : Nat → Option Nat} {Q : Nat → Nat} {n v : Nat} (hw : zWf w) (hN : N ≤ 4096) (J : cBJ w E O p N h ic c F Q n) (hv : v < N) (hE : E ic v) :
    zCv G mX10_come [.ref 147, .int (nI v), .int (nI (c + 1))] w (fun w' => zFr [147, 148, 149] [] [] w w' ∧ (∀ i, i ≠ 2 → w'.1 147 i = w.1 147 i) ∧ ∃ F' Q' n', cBJ w' E O p N h ic c F' Q' n' ∧ (O v = true → zvis F' v = true) ∧ ∀ a, zvis F a = true → zvis F' a = true) := by
  obtain ⟨J1, J2, J3, J4, J5⟩ := J
  have hn : n ≤ N := by rw [J1.1.1]; exact zcnt_le _ _
  have hm : ∀ m, F v = some m → m < 5000 := fun m e => by have := (J1.2.2.2.2.1 v m e).2; omega
  by_cases hf : w.1 148 v = -1
  · have hf2 := hf
    rw [J5.1 v (by omega)] at hf2
    obtain ⟨e1, e2⟩ := ffar_none hf2 hm
    have hnN := zBI_room J1 hv e1
    refine zC.mono (s_X10_come_y hw (by omega) (by omega) J5.2.2 hf) (fun r w' q => ?_)
    obtain ⟨rfl, rfl⟩ := q
    have P := zBI_push J1 J2 hv e1 (by rw [J3]; exact hE) e2
    rw [J3, J4] at P
    refine ⟨rfl, zFr_t (zFr_t (zFr_i (by decide) (by decide)) (zFr_i (by decide) (by decide))) (zFr_i (by decide) (by decide)), fun i hi => ?_, zupO F v (c + 1), zupN Q n v, n + 1, ⟨P, by omega, ?_, ?_, ?_, ?_, ?_⟩, fun _ => ?_, fun a ha => ?_⟩
    · unfold zcome
      rw [zsi_1, if_neg (fun z => hi z.2), zsi_1, if_neg (by omega), zsi_1, if_neg (by omega)]
    · unfold zupN
      rw [if_neg (by omega), J3]
    · have hne : ic ≠ v := by
        rintro rfl
        have := (J1.2.1 h J2).2
        rw [J3] at this
        unfold zvis at this
        rw [e1] at this
        cases this
      unfold zfd at J4 ⊢
      rw [show zupO F v (c + 1) ic = F ic from if_neg hne]
      exact J4
    · intro a ha
      unfold zcome
      rw [zsi_o (by decide), zsi_o (by decide), zsi_1]
      unfold ffar zupO
      by_cases q : a = v
      · rw [if_pos ⟨rfl, q⟩, if_pos q]
      · rw [if_neg (fun z => q z.2), if_neg q]
        exact J5.1 a ha
    · intro i hi
      unfold zcome
      rw [zsi_o (by decide), zsi_1]
      unfold zupN
      by_cases q : i = n
      · rw [if_pos ⟨rfl, q⟩, if_pos q]
      · rw [if_neg (fun z => q z.2), if_neg q, zsi_o (by decide)]
        exact J5.2.1 i (by omega)
    · unfold zcome
      rw [zsi_1, if_pos ⟨rfl, rfl⟩]
    · unfold zvis zupO
      rw [if_pos rfl]
      rfl
    · unfold zvis zupO at *
      by_cases q : a = v
      · rw [if_pos q]
        rfl
      · rw [if_neg q]
        exact ha
  · refine zC.mono (s_X10_come_n hw _ (by omega) hf) (fun r w' q => ?_)
    obtain ⟨rfl, rfl⟩ := q
    refine ⟨rfl, zFr_r, fun _ _ => rfl, F, Q, n, ⟨J1, J2, J3, J4, J5⟩, fun o => ?_, fun _ ha => ha⟩
    rw [J5.1 v (by omega)] at hf
    unfold ffar at hf
    unfold zvis
    cases e : F v with
    | none =>
      rw [e] at hf
      exact absurd (if_pos o) hf
    | some m => rfl

