/-! calls of lookers: kept in order -/
def zkept (f : Nat → Int32) (n : Int32) : Nat → Nat
  | 0 => 0
  | i + 1 => zkept f n i + if f i < n then 1 else 0
theorem zkept_le (f : Nat → Int32) (n : Int32) : ∀ i, zkept f n i ≤ i
  | 0 => Nat.le_refl _
  | i + 1 => by
    have := zkept_le f n i
    unfold zkept
    split <;> omega
theorem zkept_t {f : Nat → Int32} {n : Int32} {i : Nat} (h : f i < n) : zkept f n (i + 1) = zkept f n i + 1 := by
  show zkept f n i + (if f i < n then 1 else 0) = _
  rw [if_pos h]
theorem zkept_f {f : Nat → Int32} {n : Int32} {i : Nat} (h : ¬ f i < n) : zkept f n (i + 1) = zkept f n i := by
  show zkept f n i + (if f i < n then 1 else 0) = _
  rw [if_neg h]
  omega
theorem zkept_mono {f : Nat → Int32} {n : Int32} {i j : Nat} (h : i ≤ j) : zkept f n i ≤ zkept f n j := by
  induction h with
  | refl => exact Nat.le_refl _
  | step h ih =>
    refine Nat.le_trans ih ?_
    show _ ≤ zkept f n _ + _
    omega
theorem zkept_lt {f : Nat → Int32} {n : Int32} {i j : Nat} (h : i < j) (hi : f i < n) : zkept f n i < zkept f n j := by
  have h1 := zkept_mono (f := f) (n := n) (show i + 1 ≤ j by omega)
  rw [zkept_t hi] at h1
  omega
/-- every kept place comes from one -/
theorem zkept_of {f : Nat → Int32} {n : Int32} : ∀ (m k : Nat), k < zkept f n m → ∃ q, q < m ∧ f q < n ∧ zkept f n q = k
  | 0, k, h => absurd h (by simp [zkept])
  | m + 1, k, h => by
    by_cases hm : f m < n
    · rw [zkept_t hm] at h
      by_cases hk : k = zkept f n m
      · exact ⟨m, by omega, hm, hk.symm⟩
      · obtain ⟨q, h1, h2, h3⟩ := zkept_of (f := f) (n := n) m k (by omega)
        exact ⟨q, by omega, h2, h3⟩
    · rw [zkept_f hm] at h
      obtain ⟨q, h1, h2, h3⟩ := zkept_of (f := f) (n := n) m k h
      exact ⟨q, by omega, h2, h3⟩
def zsetCall (w : zW) (c : Nat) (l p k : Int32) : zW := zsi (zsi (zsi w 124 c l) 125 c p) 126 c k
theorem s_X4_setCall {G : zG} {w : zW} (hw : zWf w) {c : Nat} (hc : c < 24) (l p k : Int32) : zEv G mX4_setCall [.ref 114, .int (nI c), .int l, .int p, .int k] w (zsetCall w c l p k) := by
  refine zC_of (lo := [_, _, _, _, _]) kcX4_setCall (Nat.le_of_ble_eq_true rfl) rfl (fun X hX hE => ?_)
  refine zk_aload_n hX dX4_setCall_0 rfl ?_
  refine zk_getR hX dX4_setCall_1 flX4_16 k_114 z_114 (hw _ _ (by decide) |>.trans r_114_3) ?_
  refine zk_iload_n hX dX4_setCall_4 rfl ?_
  refine zk_iload_n hX dX4_setCall_5 rfl ?_
  refine zk_iastE hX dX4_setCall_6 rfl k_124 z_124 (by first | assumption | omega) rfl ?_
  refine zk_aload_n hX dX4_setCall_7 rfl ?_
  refine zk_getR hX dX4_setCall_8 flX4_20 k_114 z_114 ((zWf_i hw) _ _ (by decide) |>.trans r_114_4) ?_
  refine zk_iload_n hX dX4_setCall_11 rfl ?_
  refine zk_iload_n hX dX4_setCall_12 rfl ?_
  refine zk_iastE hX dX4_setCall_13 rfl k_125 z_125 (by first | assumption | omega) rfl ?_
  refine zk_aload_n hX dX4_setCall_14 rfl ?_
  refine zk_getR hX dX4_setCall_15 flX4_23 k_114 z_114 ((zWf_i (zWf_i hw)) _ _ (by decide) |>.trans r_114_5) ?_
  refine zk_iload_n hX dX4_setCall_18 rfl ?_
  refine zk_iload hX dX4_setCall_19 rfl ?_
  refine zk_iastE hX dX4_setCall_21 rfl k_126 z_126 (by first | assumption | omega) rfl ?_
  refine zk_vret hX hE rfl ⟨rfl, rfl⟩ dX4_setCall_22 ⟨rfl, ?_⟩
  rfl
theorem s_X4_addCall {G : zG} {w : zW} (hw : zWf w) {c : Nat} (hc : c < 24) (h : w.1 114 2 = nI c) (l p k : Int32) : zEi G mX4_addCall [.ref 114, .int l, .int p, .int k] w (nI c) (zsi (zsetCall w c l p k) 114 2 (nI (c + 1))) := by
  refine zC_of (lo := [_, _, _, _]) kcX4_addCall (Nat.le_of_ble_eq_true rfl) rfl (fun X hX hE => ?_)
  refine zk_aload_n hX dX4_addCall_0 rfl ?_
  refine zk_getI hX dX4_addCall_1 flX4_42 k_114 z_114 ?_
  rw [h]
  refine zk_bipush (v := 24) hX dX4_addCall_4 (by decide) ?_
  refine zk_icmp_lt (tgt := 12) hX dX4_addCall_6 (by decide) (fun c6 => ?_) (fun c6 => ?_)
  rotate_left
  · exact absurd (nI_lt (b := 24) hc (by decide)) c6
  refine zk_aload_n hX dX4_addCall_12 rfl ?_
  refine zk_aload_n hX dX4_addCall_13 rfl ?_
  refine zk_getI hX dX4_addCall_14 flX4_42 k_114 z_114 ?_
  rw [h]
  refine zk_iload_n hX dX4_addCall_17 rfl ?_
  refine zk_iload_n hX dX4_addCall_18 rfl ?_
  refine zk_iload_n hX dX4_addCall_19 rfl ?_
  refine zk_V4v hX dX4_addCall_20 kcX4_setCall mlX4_45 viX4_setCall rfl k_114 z_114 (s_X4_setCall hw hc _ _ _) (Nat.le_of_ble_eq_true rfl) rfl ?_
  refine zk_aload_n hX dX4_addCall_23 rfl ?_
  refine zk_dup hX dX4_addCall_24 rfl ?_
  refine zk_getI hX dX4_addCall_25 flX4_42 k_114 z_114 ?_
  rw [show (zsetCall w c l p k).1 114 2 = nI c by unfold zsetCall; rw [zsi_1, if_neg (by omega), zsi_1, if_neg (by omega), zsi_1, if_neg (by omega), h]]
  refine zk_iconst (v := 1) hX dX4_addCall_28 (by decide) ?_
  refine zk_iadd hX dX4_addCall_29 ?_
  rw [← nI_succ]
  refine zk_putI hX dX4_addCall_30 plX4_42 (fun h => by cases h) k_114 z_114 rfl rfl ?_
  refine zk_aload_n hX dX4_addCall_33 rfl ?_
  refine zk_getI hX dX4_addCall_34 flX4_42 k_114 z_114 ?_
  refine zk_iconst (v := 1) hX dX4_addCall_37 (by decide) ?_
  refine zk_isub hX dX4_addCall_38 ?_
  refine zk_iret hX hE rfl ⟨rfl, rfl⟩ dX4_addCall_39 ⟨_, rfl, ?_⟩
  exact ⟨by rw [zsi_1, if_pos ⟨rfl, rfl⟩, nI_pred], rfl⟩
def zDrop (w w1 : zW) (n : Int32) (i : Nat) : Prop := w1.2 = w.2 ∧ (∀ k, k ≠ 124 → k ≠ 125 → k ≠ 126 → w1.1 k = w.1 k) ∧ (∀ j, i ≤ j → w1.1 124 j = w.1 124 j ∧ w1.1 125 j = w.1 125 j ∧ w1.1 126 j = w.1 126 j) ∧
  ∀ q, q < i → w.1 125 q < n → (w1.1 124 (zkept (w.1 125) n q) = w.1 124 q ∧ w1.1 125 (zkept (w.1 125) n q) = w.1 125 q ∧ w1.1 126 (zkept (w.1 125) n q) = w.1 126 q)
theorem zDrop_0 {w : zW} {n : Int32} : zDrop w w n 0 := ⟨rfl, fun _ _ _ _ => rfl, fun _ _ => ⟨rfl, rfl, rfl⟩, fun q h => absurd h (by omega)⟩
theorem zDrop_f {w w1 : zW} {n : Int32} {i : Nat} (h : zDrop w w1 n i) (hf : ¬ w.1 125 i < n) : zDrop w w1 n (i + 1) := by
  obtain ⟨h1, h2, h3, h4⟩ := h
  refine ⟨h1, h2, fun j hj => h3 j (by omega), fun q hq hn => ?_⟩
  rcases Nat.lt_succ_iff_lt_or_eq.mp hq with g | rfl
  · exact h4 q g hn
  · exact absurd hn hf
theorem zsetCall_4 {w : zW} {c : Nat} {l p k : Int32} (j : Nat) : (zsetCall w c l p k).1 124 j = if j = c then l else w.1 124 j := by
  unfold zsetCall
  rw [zsi_1, if_neg (by omega), zsi_1, if_neg (by omega), zsi_1]
  simp
theorem zsetCall_5 {w : zW} {c : Nat} {l p k : Int32} (j : Nat) : (zsetCall w c l p k).1 125 j = if j = c then p else w.1 125 j := by
  unfold zsetCall
  rw [zsi_1, if_neg (by omega), zsi_1]
  simp [zsi_1]
theorem zsetCall_6 {w : zW} {c : Nat} {l p k : Int32} (j : Nat) : (zsetCall w c l p k).1 126 j = if j = c then k else w.1 126 j := by
  unfold zsetCall
  rw [zsi_1]
  simp [zsi_1]
theorem zsetCall_o {w : zW} {c : Nat} {l p k : Int32} {a : Nat} (h4 : a ≠ 124) (h5 : a ≠ 125) (h6 : a ≠ 126) : (zsetCall w c l p k).1 a = w.1 a := by
  unfold zsetCall
  funext j
  rw [zsi_1, if_neg (by omega), zsi_1, if_neg (by omega), zsi_1, if_neg (by omega)]
theorem zDrop_t {w w1 : zW} {n : Int32} {i : Nat} (h : zDrop w w1 n i) (hf : w.1 125 i < n) : zDrop w (zsetCall w1 (zkept (w.1 125) n i) (w1.1 124 i) (w1.1 125 i) (w1.1 126 i)) n (i + 1) := by
  obtain ⟨h1, h2, h3, h4⟩ := h
  have hle := zkept_le (w.1 125) n i
  refine ⟨h1, fun k a b c => by rw [zsetCall_o a b c, h2 k a b c], fun j hj => ?_, fun q hq hn => ?_⟩
  · rw [zsetCall_4, zsetCall_5, zsetCall_6, if_neg (by omega), if_neg (by omega), if_neg (by omega)]
    exact h3 j (by omega)
  · rw [zsetCall_4, zsetCall_5, zsetCall_6]
    rcases Nat.lt_succ_iff_lt_or_eq.mp hq with g | rfl
    · have := zkept_lt (n := n) g hn
      rw [if_neg (by omega), if_neg (by omega), if_neg (by omega)]
      exact h4 q g hn
    · rw [if_pos rfl, if_pos rfl, if_pos rfl]
      exact h3 q (Nat.le_refl _)
theorem s_X4_dropCalls {G : zG} {w : zW} (hw : zWf w) {m : Nat} (hm : m ≤ 24) (h : w.1 114 2 = nI m) (n : Int32) :
    zCv G mX4_dropCalls [.ref 114, .int n] w (fun w' => ∃ w1, zDrop w w1 n m ∧ w' = zsi w1 114 2 (nI (zkept (w.1 125) n m))) := by
  refine zC_of (lo := [_, _, _, _]) kcX4_dropCalls (Nat.le_of_ble_eq_true rfl) rfl (fun X hX hE => ?_)
  have loop : ∀ k i w1, i + k = m → zDrop w w1 n i → zk0 G X mX4_dropCalls 4 [.ref 114, .int n, .int (nI (zkept (w.1 125) n i)), .int (nI i)] [] w1 := by
    intro k
    induction k with
    | zero =>
      intro i w1 hi hD
      obtain rfl : i = m := by omega
      have hw1 : zWf w1 := zWf_of hw (by rw [hD.1])
      have h1 : w1.1 114 2 = nI i := by rw [hD.2.1 114 (by decide) (by decide) (by decide), h]
      refine zk_iload_n hX dX4_dropCalls_4 rfl ?_
      refine zk_aload_n hX dX4_dropCalls_5 rfl ?_
      refine zk_getI hX dX4_dropCalls_6 flX4_42 k_114 z_114 ?_
      rw [h1]
      refine zk_icmp_ge (tgt := 57) hX dX4_dropCalls_9 (by decide) (fun c9 => ?_) (fun c9 => ?_)
      rotate_left
      · exact absurd (nI_le (Nat.le_refl _) (by omega)) c9
      refine zk_aload_n hX dX4_dropCalls_57 rfl ?_
      refine zk_iload_n hX dX4_dropCalls_58 rfl ?_
      refine zk_putI hX dX4_dropCalls_59 plX4_42 (fun h => by cases h) k_114 z_114 rfl rfl ?_
      refine zk_vret hX hE rfl ⟨rfl, rfl⟩ dX4_dropCalls_62 ⟨rfl, ?_⟩
      exact ⟨w1, hD, rfl⟩
    | succ k ih =>
      intro i w1 hi hD
      have hw1 : zWf w1 := zWf_of hw (by rw [hD.1])
      have h1 : w1.1 114 2 = nI m := by rw [hD.2.1 114 (by decide) (by decide) (by decide), h]
      have hle := zkept_le (w.1 125) n i
      have hi5 := (hD.2.2.1 i (Nat.le_refl _)).2.1
      refine zk_iload_n hX dX4_dropCalls_4 rfl ?_
      refine zk_aload_n hX dX4_dropCalls_5 rfl ?_
      refine zk_getI hX dX4_dropCalls_6 flX4_42 k_114 z_114 ?_
      rw [h1]
      refine zk_icmp_ge (tgt := 57) hX dX4_dropCalls_9 (by decide) (fun c9 => ?_) (fun c9 => ?_)
      · exact absurd c9 (nI_ge (by omega) (by omega))
      refine zk_aload_n hX dX4_dropCalls_12 rfl ?_
      refine zk_getR hX dX4_dropCalls_13 flX4_20 k_114 z_114 (hw1 _ _ (by decide) |>.trans r_114_4) ?_
      refine zk_iload_n hX dX4_dropCalls_16 rfl ?_
      refine zk_ialdE hX dX4_dropCalls_17 rfl k_125 z_125 (by first | assumption | omega) rfl ?_
      refine zk_iload_n hX dX4_dropCalls_18 rfl ?_
      refine zk_icmp_lt (tgt := 25) hX dX4_dropCalls_19 (by decide) (fun c19 => ?_) (fun c19 => ?_)
      · rw [hi5] at c19
        refine zk_aload_n hX dX4_dropCalls_25 rfl ?_
        refine zk_iload_n hX dX4_dropCalls_26 rfl ?_
        refine zk_aload_n hX dX4_dropCalls_27 rfl ?_
        refine zk_getR hX dX4_dropCalls_28 flX4_16 k_114 z_114 (hw1 _ _ (by decide) |>.trans r_114_3) ?_
        refine zk_iload_n hX dX4_dropCalls_31 rfl ?_
        refine zk_ialdE hX dX4_dropCalls_32 rfl k_124 z_124 (by first | assumption | omega) rfl ?_
        refine zk_aload_n hX dX4_dropCalls_33 rfl ?_
        refine zk_getR hX dX4_dropCalls_34 flX4_20 k_114 z_114 (hw1 _ _ (by decide) |>.trans r_114_4) ?_
        refine zk_iload_n hX dX4_dropCalls_37 rfl ?_
        refine zk_ialdE hX dX4_dropCalls_38 rfl k_125 z_125 (by first | assumption | omega) rfl ?_
        refine zk_aload_n hX dX4_dropCalls_39 rfl ?_
        refine zk_getR hX dX4_dropCalls_40 flX4_23 k_114 z_114 (hw1 _ _ (by decide) |>.trans r_114_5) ?_
        refine zk_iload_n hX dX4_dropCalls_43 rfl ?_
        refine zk_ialdE hX dX4_dropCalls_44 rfl k_126 z_126 (by first | assumption | omega) rfl ?_
        refine zk_V4v hX dX4_dropCalls_45 kcX4_setCall mlX4_45 viX4_setCall rfl k_114 z_114 (s_X4_setCall hw1 (by omega) _ _ _) (Nat.le_of_ble_eq_true rfl) rfl ?_
        refine zk_iinc (lo' := [_, _, _, _]) hX dX4_dropCalls_48 rfl (by first | exact zinc _ | exact rfl) (Nat.le_of_ble_eq_true rfl) rfl rfl ?_
        refine zk_iinc (lo' := [_, _, _, _]) hX dX4_dropCalls_51 rfl (by first | exact zinc _ | exact rfl) (Nat.le_of_ble_eq_true rfl) rfl rfl ?_
        refine zk_goto (tgt := 4) hX dX4_dropCalls_54 (by decide) ?_
        first | (rw [← zkept_f c19]; exact ih (i + 1) w1 (by omega) (zDrop_f hD c19)) | (have e9 := zkept_t c19; rw [← e9]; exact ih (i + 1) _ (by omega) (zDrop_t hD c19))
      · rw [hi5] at c19
        refine zk_goto (tgt := 51) hX dX4_dropCalls_22 (by decide) ?_
        refine zk_iinc (lo' := [_, _, _, _]) hX dX4_dropCalls_51 rfl (by first | exact zinc _ | exact rfl) (Nat.le_of_ble_eq_true rfl) rfl rfl ?_
        refine zk_goto (tgt := 4) hX dX4_dropCalls_54 (by decide) ?_
        first | (rw [← zkept_f c19]; exact ih (i + 1) w1 (by omega) (zDrop_f hD c19)) | (have e9 := zkept_t c19; rw [← e9]; exact ih (i + 1) _ (by omega) (zDrop_t hD c19))
  refine zk_iconst (v := 0) hX dX4_dropCalls_0 (by decide) ?_
  refine zk_istore_n (lo' := [_, _, _, _]) hX dX4_dropCalls_1 (Nat.le_of_ble_eq_true rfl) rfl rfl ?_
  refine zk_iconst (v := 0) hX dX4_dropCalls_2 (by decide) ?_
  refine zk_istore_n (lo' := [_, _, _, _]) hX dX4_dropCalls_3 (Nat.le_of_ble_eq_true rfl) rfl rfl ?_
  exact loop m 0 w (by omega) zDrop_0
theorem s_X11_dropPoses {G : zG} {w : zW} (hw : zWf w) {m : Nat} (hm : m ≤ 24) (h : w.1 114 2 = nI m) (n : Int32) :
    zCv G mX11_dropPoses [.ref 0, .int n] w (fun w' => ∃ w1, zDrop w w1 n m ∧ w' = zsi (zsi w1 114 2 (nI (zkept (w.1 125) n m))) 0 10 n) := by
  refine zC_of (lo := [_, _]) kcX11_dropPoses (Nat.le_of_ble_eq_true rfl) rfl (fun X hX hE => ?_)
  refine zk_aload_n hX dX11_dropPoses_0 rfl ?_
  refine zk_getR hX dX11_dropPoses_1 flX11_76 k_0 z_0 (hw _ _ (by decide) |>.trans r_0_12) ?_
  refine zk_iload_n hX dX11_dropPoses_4 rfl ?_
  refine zk_V1vp hX dX11_dropPoses_5 kcX4_dropCalls mlX11_513 viX4_dropCalls rfl k_114 z_114 (s_X4_dropCalls hw hm h n) (Nat.le_of_ble_eq_true rfl) rfl (fun w9 q9 => ?_)
  obtain ⟨w1, hD, rfl⟩ := q9
  refine zk_aload_n hX dX11_dropPoses_8 rfl ?_
  refine zk_iload_n hX dX11_dropPoses_9 rfl ?_
  refine zk_putI hX dX11_dropPoses_10 plX11_213 (fun h => by cases h) k_0 z_0 rfl rfl ?_
  refine zk_vret hX hE rfl ⟨rfl, rfl⟩ dX11_dropPoses_13 ⟨rfl, ?_⟩
  exact ⟨w1, hD, rfl⟩
theorem s_X11_back_bad {G : zG} {w : zW} (n : Int32) (h : ¬ (0 ≤ n ∧ n ≤ w.1 0 10)) : zEi G mX11_back [.ref 0, .int n] w (-1) w := by
  refine zC_of (lo := [_, _, _]) kcX11_back (Nat.le_of_ble_eq_true rfl) rfl (fun X hX hE => ?_)
  refine zk_iload_n hX dX11_back_0 rfl ?_
  refine zk_if_lt (tgt := 12) hX dX11_back_1 (by decide) (fun c1 => ?_) (fun c1 => ?_)
  · refine zk_iconst (v := -1) hX dX11_back_12 (by decide) ?_
    refine zk_iret hX hE rfl ⟨rfl, rfl⟩ dX11_back_13 ⟨_, rfl, ?_⟩
    exact ⟨rfl, rfl⟩
  · refine zk_iload_n hX dX11_back_4 rfl ?_
    refine zk_aload_n hX dX11_back_5 rfl ?_
    refine zk_getI hX dX11_back_6 flX11_213 k_0 z_0 ?_
    refine zk_icmp_le (tgt := 14) hX dX11_back_9 (by decide) (fun c9 => ?_) (fun c9 => ?_)
    · exact absurd c9 (fun c => h ⟨by grind, c⟩)
    refine zk_iconst (v := -1) hX dX11_back_12 (by decide) ?_
    refine zk_iret hX hE rfl ⟨rfl, rfl⟩ dX11_back_13 ⟨_, rfl, ?_⟩
    exact ⟨rfl, rfl⟩
theorem s_X11_back {G : zG} {w : zW} (hw : zWf w) {m : Nat} (hm : m ≤ 24) (h : w.1 114 2 = nI m) (n : Int32) (hn : 0 ≤ n ∧ n ≤ w.1 0 10) :
    zCi G mX11_back [.ref 0, .int n] w (fun r w' => r = w.1 0 10 - n ∧ ∃ w1, zDrop w w1 n m ∧ w' = zsi (zsi w1 114 2 (nI (zkept (w.1 125) n m))) 0 10 n) := by
  refine zC_of (lo := [_, _, _]) kcX11_back (Nat.le_of_ble_eq_true rfl) rfl (fun X hX hE => ?_)
  refine zk_iload_n hX dX11_back_0 rfl ?_
  refine zk_if_lt (tgt := 12) hX dX11_back_1 (by decide) (fun c1 => ?_) (fun c1 => ?_)
  · exact absurd c1 (Int32.not_lt.mpr hn.1)
  refine zk_iload_n hX dX11_back_4 rfl ?_
  refine zk_aload_n hX dX11_back_5 rfl ?_
  refine zk_getI hX dX11_back_6 flX11_213 k_0 z_0 ?_
  refine zk_icmp_le (tgt := 14) hX dX11_back_9 (by decide) (fun c9 => ?_) (fun c9 => ?_)
  rotate_left
  · exact absurd hn.2 c9
  refine zk_aload_n hX dX11_back_14 rfl ?_
  refine zk_getI hX dX11_back_15 flX11_213 k_0 z_0 ?_
  refine zk_iload_n hX dX11_back_18 rfl ?_
  refine zk_isub hX dX11_back_19 ?_
  refine zk_istore_n (lo' := [_, _, _]) hX dX11_back_20 (Nat.le_of_ble_eq_true rfl) rfl rfl ?_
  refine zk_aload_n hX dX11_back_21 rfl ?_
  refine zk_iload_n hX dX11_back_22 rfl ?_
  refine zk_V1vp hX dX11_back_23 kcX11_dropPoses mlX11_160 viX11_dropPoses rfl k_0 z_0 (s_X11_dropPoses hw hm h n) (Nat.le_of_ble_eq_true rfl) rfl (fun w9 q9 => ?_)
  refine zk_iload_n hX dX11_back_26 rfl ?_
  refine zk_iret hX hE rfl ⟨rfl, rfl⟩ dX11_back_27 ⟨_, rfl, ?_⟩
  exact ⟨rfl, q9⟩
/-! the model's -/
theorem zcopy_s {w : zW} {k0 k1 i j t : Nat} : zsi (zcopy w k0 k1 i j t) k1 (j + t) (w.1 k0 (i + t)) = zcopy w k0 k1 i j (t + 1) := by
  unfold zcopy zsi
  refine Prod.ext ?_ rfl
  funext a q
  show (if a = k1 ∧ q = j + t then w.1 k0 (i + t) else if a = k1 ∧ j ≤ q ∧ q < j + t then w.1 k0 (i + (q - j)) else w.1 a q) = if a = k1 ∧ j ≤ q ∧ q < j + (t + 1) then w.1 k0 (i + (q - j)) else w.1 a q
  by_cases h1 : a = k1 ∧ q = j + t
  · rw [if_pos h1, if_pos ⟨h1.1, by omega, by omega⟩, show i + (q - j) = i + t by omega]
  · rw [if_neg h1]
    by_cases h2 : a = k1 ∧ j ≤ q ∧ q < j + t
    · rw [if_pos h2, if_pos ⟨h2.1, h2.2.1, by omega⟩]
    · rw [if_neg h2, if_neg (by omega)]
theorem zcopy_0 {w : zW} {k0 k1 i j : Nat} : zcopy w k0 k1 i j 0 = w := by
  unfold zcopy
  refine Prod.ext ?_ rfl
  funext a q
  show (if a = k1 ∧ j ≤ q ∧ q < j + 0 then w.1 k0 (i + (q - j)) else w.1 a q) = w.1 a q
  rw [if_neg (by omega)]
theorem zcopy_1 {w : zW} {k0 k1 i j n : Nat} {a q : Nat} : (zcopy w k0 k1 i j n).1 a q = if a = k1 ∧ j ≤ q ∧ q < j + n then w.1 k0 (i + (q - j)) else w.1 a q := rfl
abbrev mcalled (w : zW) : Nat → Int32 := fun c => w.1 201 (3 * c + 1)
def mDrop (w w1 : zW) (n : Int32) (i : Nat) : Prop := w1.2 = w.2 ∧ (∀ k, k ≠ 201 → w1.1 k = w.1 k) ∧ (∀ j, 3 * i ≤ j → w1.1 201 j = w.1 201 j) ∧
  ∀ q t, q < i → t < 3 → w.1 201 (3 * q + 1) < n → w1.1 201 (3 * zkept (mcalled w) n q + t) = w.1 201 (3 * q + t)
theorem mDrop_0 {w : zW} {n : Int32} : mDrop w w n 0 := ⟨rfl, fun _ _ => rfl, fun _ _ => rfl, fun q t h => absurd h (by omega)⟩
theorem mDrop_f {w w1 : zW} {n : Int32} {i : Nat} (h : mDrop w w1 n i) (hf : ¬ w.1 201 (3 * i + 1) < n) : mDrop w w1 n (i + 1) := by
  obtain ⟨h1, h2, h3, h4⟩ := h
  refine ⟨h1, h2, fun j hj => h3 j (by omega), fun q t hq ht hn => ?_⟩
  rcases Nat.lt_succ_iff_lt_or_eq.mp hq with g | rfl
  · exact h4 q t g ht hn
  · exact absurd hn hf
theorem mDrop_t {w w1 : zW} {n : Int32} {i : Nat} (h : mDrop w w1 n i) (hf : w.1 201 (3 * i + 1) < n) : mDrop w (zcopy w1 201 201 (3 * i) (3 * zkept (mcalled w) n i) 3) n (i + 1) := by
  obtain ⟨h1, h2, h3, h4⟩ := h
  have hle := zkept_le (mcalled w) n i
  refine ⟨h1, fun k hk => ?_, fun j hj => ?_, fun q t hq ht hn => ?_⟩
  · funext j
    rw [zcopy_1, if_neg (by omega), h2 k hk]
  · rw [zcopy_1, if_neg (by omega)]
    exact h3 j (by omega)
  · rcases Nat.lt_succ_iff_lt_or_eq.mp hq with g | rfl
    · have := zkept_lt (f := mcalled w) (n := n) g hn
      rw [zcopy_1, if_neg (by omega)]
      exact h4 q t g ht hn
    · rw [zcopy_1, if_pos ⟨rfl, by omega, by omega⟩, show 3 * q + (3 * zkept (mcalled w) n q + t - 3 * zkept (mcalled w) n q) = 3 * q + t by omega]
      exact h3 _ (by omega)
theorem s_X12_back_bad {G : zG} {w : zW} (n : Int32) (h : ¬ (0 ≤ n ∧ n ≤ w.1 166 33)) : zEi G mX12_back [.ref 166, .int n] w (-1) w := by
  refine zC_of (lo := [_, _, _, _, _, _]) kcX12_back (Nat.le_of_ble_eq_true rfl) rfl (fun X hX hE => ?_)
  refine zk_iload_n hX dX12_back_0 rfl ?_
  refine zk_iconst (v := 0) hX dX12_back_1 (by decide) ?_
  refine zk_aload_n hX dX12_back_2 rfl ?_
  refine zk_getI hX dX12_back_3 flX12_202 k_166 z_166 ?_
  refine zk_S3i hX dX12_back_6 kcX12_in mlX12_131 smX12_in rfl (s_X12_in _ _ _) (Nat.le_of_ble_eq_true rfl) rfl ?_
  refine zk_if_neB (tgt := 14) hX dX12_back_9 (by decide) (fun c9 => ?_) (fun c9 => ?_)
  · exact absurd c9 h
  refine zk_iconst (v := -1) hX dX12_back_12 (by decide) ?_
  refine zk_iret hX hE rfl ⟨rfl, rfl⟩ dX12_back_13 ⟨_, rfl, ?_⟩
  exact ⟨rfl, rfl⟩
theorem s_X12_back {G : zG} {w : zW} (hw : zWf w) {m : Nat} (hm : m ≤ 24) (h : w.1 166 55 = nI m) (n : Int32) (hn : 0 ≤ n ∧ n ≤ w.1 166 33) :
    zCi G mX12_back [.ref 166, .int n] w (fun r w' => r = w.1 166 33 - n ∧ ∃ w1, mDrop w w1 n m ∧ w' = zsi (zsi w1 166 55 (nI (zkept (mcalled w) n m))) 166 33 n) := by
  refine zC_of (lo := [_, _, _, _, _, _]) kcX12_back (Nat.le_of_ble_eq_true rfl) rfl (fun X hX hE => ?_)
  have loop : ∀ k i w1 v, i + k = m → mDrop w w1 n i → zk0 G X mX12_back 26 [.ref 166, .int n, .int (w.1 166 33 - n), .int (nI (zkept (mcalled w) n i)), .int (nI i), v] [] w1 := by
    intro k
    induction k with
    | zero =>
      intro i w1 v hi hD
      obtain rfl : i = m := by omega
      have hw1 : zWf w1 := zWf_of hw (by rw [hD.1])
      have h1 : w1.1 166 55 = nI i := by rw [hD.2.1 166 (by decide), h]
      refine zk_iload hX dX12_back_26 rfl ?_
      refine zk_aload_n hX dX12_back_28 rfl ?_
      refine zk_getI hX dX12_back_29 flX12_205 k_166 z_166 ?_
      rw [h1]
      refine zk_icmp_ge (tgt := 97) hX dX12_back_32 (by decide) (fun c32 => ?_) (fun c32 => ?_)
      rotate_left
      · exact absurd (nI_le (Nat.le_refl _) (by omega)) c32
      refine zk_aload_n hX dX12_back_97 rfl ?_
      refine zk_iload_n hX dX12_back_98 rfl ?_
      refine zk_putI hX dX12_back_99 plX12_205 (fun h => by cases h) k_166 z_166 rfl rfl ?_
      refine zk_aload_n hX dX12_back_102 rfl ?_
      refine zk_iload_n hX dX12_back_103 rfl ?_
      refine zk_putI hX dX12_back_104 plX12_202 (fun h => by cases h) k_166 z_166 rfl rfl ?_
      refine zk_iload_n hX dX12_back_107 rfl ?_
      refine zk_iret hX hE rfl ⟨rfl, rfl⟩ dX12_back_108 ⟨_, rfl, ?_⟩
      exact ⟨rfl, w1, hD, rfl⟩
    | succ k ih =>
      intro i w1 v hi hD
      have hw1 : zWf w1 := zWf_of hw (by rw [hD.1])
      have h1 : w1.1 166 55 = nI m := by rw [hD.2.1 166 (by decide), h]
      have hle := zkept_le (mcalled w) n i
      have hi5 := hD.2.2.1 (3 * i + 1) (by omega)
      have inner : w.1 201 (3 * i + 1) < n → ∀ z t, t + z = 3 → zk0 G X mX12_back 53 [.ref 166, .int n, .int (w.1 166 33 - n), .int (nI (zkept (mcalled w) n i)), .int (nI i), .int (nI t)] [] (zcopy w1 201 201 (3 * i) (3 * zkept (mcalled w) n i) t) := by
        intro hf z
        induction z with
        | zero =>
          intro t ht
          obtain rfl : t = 3 := by omega
          refine zk_iload hX dX12_back_53 rfl ?_
          refine zk_iconst (v := 3) hX dX12_back_55 (by decide) ?_
          refine zk_icmp_ge (tgt := 88) hX dX12_back_56 (by decide) (fun c56 => ?_) (fun c56 => ?_)
          rotate_left
          · exact absurd (nI_le (a := 3) (b := 3) (Nat.le_refl _) (by decide)) c56
          refine zk_iinc (lo' := [_, _, _, _, _, _]) hX dX12_back_88 rfl (by first | exact zinc _ | exact rfl) (Nat.le_of_ble_eq_true rfl) rfl rfl ?_
          refine zk_iinc (lo' := [_, _, _, _, _, _]) hX dX12_back_91 rfl (by first | exact zinc _ | exact rfl) (Nat.le_of_ble_eq_true rfl) rfl rfl ?_
          refine zk_goto (tgt := 26) hX dX12_back_94 (by decide) ?_
          have e9 := zkept_t (f := mcalled w) hf; rw [← e9]; exact ih (i + 1) _ _ (by omega) (mDrop_t hD hf)
        | succ z ih2 =>
          intro t ht
          refine zk_iload hX dX12_back_53 rfl ?_
          refine zk_iconst (v := 3) hX dX12_back_55 (by decide) ?_
          refine zk_icmp_ge (tgt := 88) hX dX12_back_56 (by decide) (fun c56 => ?_) (fun c56 => ?_)
          · exact absurd c56 (nI_ge (b := 3) (by omega) (by decide))
          refine zk_aload_n hX dX12_back_59 rfl ?_
          refine zk_getR hX dX12_back_60 flX12_114 k_166 z_166 (hw1 _ _ (by decide) |>.trans r_166_56) ?_
          refine zk_iconst (v := 3) hX dX12_back_63 (by decide) ?_
          refine zk_iload_n hX dX12_back_64 rfl ?_
          refine zk_imul hX dX12_back_65 ?_
          refine zk_iload hX dX12_back_66 rfl ?_
          refine zk_iadd hX dX12_back_68 ?_
          refine zk_aload_n hX dX12_back_69 rfl ?_
          refine zk_getR hX dX12_back_70 flX12_114 k_166 z_166 (hw1 _ _ (by decide) |>.trans r_166_56) ?_
          refine zk_iconst (v := 3) hX dX12_back_73 (by decide) ?_
          refine zk_iload hX dX12_back_74 rfl ?_
          refine zk_imul hX dX12_back_76 ?_
          refine zk_iload hX dX12_back_77 rfl ?_
          refine zk_iadd hX dX12_back_79 ?_
          refine zk_ialdE hX dX12_back_80 (nI_addE (nI_mulE (nI_k 3 rfl) rfl) rfl) k_201 z_201 (by first | assumption | omega) rfl ?_
          rw [zcopy_1, if_neg (by omega)]
          refine zk_iastE hX dX12_back_81 (nI_addE (nI_mulE (nI_k 3 rfl) rfl) rfl) k_201 z_201 (by first | assumption | omega) rfl ?_
          rw [zcopy_s]
          refine zk_iinc (lo' := [_, _, _, _, _, _]) hX dX12_back_82 rfl (by first | exact zinc _ | exact rfl) (Nat.le_of_ble_eq_true rfl) rfl rfl ?_
          refine zk_goto (tgt := 53) hX dX12_back_85 (by decide) ?_
          exact ih2 (t + 1) (by omega)
      refine zk_iload hX dX12_back_26 rfl ?_
      refine zk_aload_n hX dX12_back_28 rfl ?_
      refine zk_getI hX dX12_back_29 flX12_205 k_166 z_166 ?_
      rw [h1]
      refine zk_icmp_ge (tgt := 97) hX dX12_back_32 (by decide) (fun c32 => ?_) (fun c32 => ?_)
      · exact absurd c32 (nI_ge (by omega) (by omega))
      refine zk_aload_n hX dX12_back_35 rfl ?_
      refine zk_getR hX dX12_back_36 flX12_114 k_166 z_166 (hw1 _ _ (by decide) |>.trans r_166_56) ?_
      refine zk_iconst (v := 3) hX dX12_back_39 (by decide) ?_
      refine zk_iload hX dX12_back_40 rfl ?_
      refine zk_imul hX dX12_back_42 ?_
      refine zk_iconst (v := 1) hX dX12_back_43 (by decide) ?_
      refine zk_iadd hX dX12_back_44 ?_
      refine zk_ialdE hX dX12_back_45 (nI_addE (nI_mulE (nI_k 3 rfl) rfl) (nI_k 1 rfl)) k_201 z_201 (by first | assumption | omega) rfl ?_
      rw [hi5]
      refine zk_iload_n hX dX12_back_46 rfl ?_
      refine zk_icmp_ge (tgt := 91) hX dX12_back_47 (by decide) (fun c47 => ?_) (fun c47 => ?_)
      · refine zk_iinc (lo' := [_, _, _, _, _, _]) hX dX12_back_91 rfl (by first | exact zinc _ | exact rfl) (Nat.le_of_ble_eq_true rfl) rfl rfl ?_
        refine zk_goto (tgt := 26) hX dX12_back_94 (by decide) ?_
        rw [← zkept_f (f := mcalled w) (show ¬ mcalled w i < n by grind)]; exact ih (i + 1) w1 v (by omega) (mDrop_f hD (by grind))
      · refine zk_iconst (v := 0) hX dX12_back_50 (by decide) ?_
        refine zk_istore (lo' := [_, _, _, _, _, _]) hX dX12_back_51 (Nat.le_of_ble_eq_true rfl) rfl rfl ?_
        rw [← zcopy_0 (w := w1) (k0 := 201) (k1 := 201) (i := 3 * i) (j := 3 * zkept (mcalled w) n i)]
        exact inner (by grind) 3 0 (by omega)
  refine zk_iload_n hX dX12_back_0 rfl ?_
  refine zk_iconst (v := 0) hX dX12_back_1 (by decide) ?_
  refine zk_aload_n hX dX12_back_2 rfl ?_
  refine zk_getI hX dX12_back_3 flX12_202 k_166 z_166 ?_
  refine zk_S3i hX dX12_back_6 kcX12_in mlX12_131 smX12_in rfl (s_X12_in _ _ _) (Nat.le_of_ble_eq_true rfl) rfl ?_
  refine zk_if_neB (tgt := 14) hX dX12_back_9 (by decide) (fun c9 => ?_) (fun c9 => ?_)
  rotate_left
  · exact absurd hn c9
  refine zk_aload_n hX dX12_back_14 rfl ?_
  refine zk_getI hX dX12_back_15 flX12_202 k_166 z_166 ?_
  refine zk_iload_n hX dX12_back_18 rfl ?_
  refine zk_isub hX dX12_back_19 ?_
  refine zk_istore_n (lo' := [_, _, _, _, _, _]) hX dX12_back_20 (Nat.le_of_ble_eq_true rfl) rfl rfl ?_
  refine zk_iconst (v := 0) hX dX12_back_21 (by decide) ?_
  refine zk_istore_n (lo' := [_, _, _, _, _, _]) hX dX12_back_22 (Nat.le_of_ble_eq_true rfl) rfl rfl ?_
  refine zk_iconst (v := 0) hX dX12_back_23 (by decide) ?_
  refine zk_istore (lo' := [_, _, _, _, _, _]) hX dX12_back_24 (Nat.le_of_ble_eq_true rfl) rfl rfl ?_
  exact loop m 0 w _ (by omega) mDrop_0
/-! call, odds -/
def zcnt (P : Nat → Bool) : Nat → Nat
  | 0 => 0
  | i + 1 => zcnt P i + if P i = true then 1 else 0
theorem zcnt_le (P : Nat → Bool) : ∀ i, zcnt P i ≤ i
  | 0 => Nat.le_refl _
  | i + 1 => by
    have := zcnt_le P i
    unfold zcnt
    split <;> omega
theorem zcnt_t {P : Nat → Bool} {i : Nat} (h : P i = true) : zcnt P (i + 1) = zcnt P i + 1 := by
  show zcnt P i + (if P i = true then 1 else 0) = _
  rw [if_pos h]
theorem zcnt_f {P : Nat → Bool} {i : Nat} (h : ¬ P i = true) : zcnt P (i + 1) = zcnt P i := by
  show zcnt P i + (if P i = true then 1 else 0) = _
  rw [if_neg h]
  omega
theorem zcnt_c {P R : Nat → Bool} : ∀ {n : Nat}, (∀ i, i < n → P i = R i) → zcnt P n = zcnt R n
  | 0, _ => rfl
  | n + 1, h => by
    unfold zcnt
    rw [zcnt_c (fun i hi => h i (by omega)), h n (by omega)]
theorem zcnt_mono {P R : Nat → Bool} : ∀ {n : Nat}, (∀ i, i < n → P i = true → R i = true) → zcnt P n ≤ zcnt R n
  | 0, _ => Nat.le_refl _
  | n + 1, h => by
    have h1 := zcnt_mono (P := P) (R := R) (n := n) (fun i hi => h i (by omega))
    have h2 := h n (by omega)
    unfold zcnt
    by_cases hp : P n = true
    · rw [if_pos hp, if_pos (h2 hp)]
      omega
    · rw [if_neg hp]
      split <;> omega
def zofP (w : zW) (p k : Int32) : Nat → Bool := fun c => decide (w.1 125 c = p ∧ (k = -9 ∨ w.1 126 c = k))
theorem s_X4_callsOf {G : zG} {w : zW} (hw : zWf w) {m : Nat} (hm : m ≤ 24) (h : w.1 114 2 = nI m) (p k : Int32) : zEi G mX4_callsOf [.ref 114, .int p, .int k] w (nI (zcnt (zofP w p k) m)) w := by
  refine zC_of (lo := [_, _, _, _, _]) kcX4_callsOf (Nat.le_of_ble_eq_true rfl) rfl (fun X hX hE => ?_)
  have loop : ∀ z i, i + z = m → zk0 G X mX4_callsOf 5 [.ref 114, .int p, .int k, .int (nI (zcnt (zofP w p k) i)), .int (nI i)] [] w := by
    intro z
    induction z with
    | zero =>
      intro i hi
      obtain rfl : i = m := by omega
      refine zk_iload hX dX4_callsOf_5 rfl ?_
      refine zk_aload_n hX dX4_callsOf_7 rfl ?_
      refine zk_getI hX dX4_callsOf_8 flX4_42 k_114 z_114 ?_
      rw [h]
      refine zk_icmp_ge (tgt := 51) hX dX4_callsOf_11 (by decide) (fun c11 => ?_) (fun c11 => ?_)
      rotate_left
      · exact absurd (nI_le (Nat.le_refl _) (by omega)) c11
      refine zk_iload_n hX dX4_callsOf_51 rfl ?_
      refine zk_iret hX hE rfl ⟨rfl, rfl⟩ dX4_callsOf_52 ⟨_, rfl, ?_⟩
      exact ⟨rfl, rfl⟩
    | succ z ih =>
      intro i hi
      have ht : (w.1 125 i = p ∧ (k = -9 ∨ w.1 126 i = k)) → nI (zcnt (zofP w p k) i + 1) = nI (zcnt (zofP w p k) (i + 1)) := fun q => by rw [zcnt_t (by unfold zofP; exact decide_eq_true q)]
      have hf : ¬ (w.1 125 i = p ∧ (k = -9 ∨ w.1 126 i = k)) → nI (zcnt (zofP w p k) i) = nI (zcnt (zofP w p k) (i + 1)) := fun q => by rw [zcnt_f (by unfold zofP; simpa using q)]
      refine zk_iload hX dX4_callsOf_5 rfl ?_
      refine zk_aload_n hX dX4_callsOf_7 rfl ?_
      refine zk_getI hX dX4_callsOf_8 flX4_42 k_114 z_114 ?_
      rw [h]
      refine zk_icmp_ge (tgt := 51) hX dX4_callsOf_11 (by decide) (fun c11 => ?_) (fun c11 => ?_)
      · exact absurd c11 (nI_ge (by omega) (by omega))
      refine zk_aload_n hX dX4_callsOf_14 rfl ?_
      refine zk_getR hX dX4_callsOf_15 flX4_20 k_114 z_114 (hw _ _ (by decide) |>.trans r_114_4) ?_
      refine zk_iload hX dX4_callsOf_18 rfl ?_
      refine zk_ialdE hX dX4_callsOf_20 rfl k_125 z_125 (by first | assumption | omega) rfl ?_
      refine zk_iload_n hX dX4_callsOf_21 rfl ?_
      refine zk_icmp_ne (tgt := 45) hX dX4_callsOf_22 (by decide) (fun c22 => ?_) (fun c22 => ?_)
      · refine zk_iinc (lo' := [_, _, _, _, _]) hX dX4_callsOf_45 rfl (by first | exact zinc _ | exact rfl) (Nat.le_of_ble_eq_true rfl) rfl rfl ?_
        refine zk_goto (tgt := 5) hX dX4_callsOf_48 (by decide) ?_
        first | (rw [ht (by grind)]; exact ih (i + 1) (by omega)) | (rw [hf (by grind)]; exact ih (i + 1) (by omega))
      · refine zk_iload_n hX dX4_callsOf_25 rfl ?_
        refine zk_bipush (v := -9) hX dX4_callsOf_26 (by decide) ?_
        refine zk_icmp_eq (tgt := 42) hX dX4_callsOf_28 (by decide) (fun c28 => ?_) (fun c28 => ?_)
        · refine zk_iinc (lo' := [_, _, _, _, _]) hX dX4_callsOf_42 rfl (by first | exact zinc _ | exact rfl) (Nat.le_of_ble_eq_true rfl) rfl rfl ?_
          refine zk_iinc (lo' := [_, _, _, _, _]) hX dX4_callsOf_45 rfl (by first | exact zinc _ | exact rfl) (Nat.le_of_ble_eq_true rfl) rfl rfl ?_
          refine zk_goto (tgt := 5) hX dX4_callsOf_48 (by decide) ?_
          first | (rw [ht (by grind)]; exact ih (i + 1) (by omega)) | (rw [hf (by grind)]; exact ih (i + 1) (by omega))
        · refine zk_aload_n hX dX4_callsOf_31 rfl ?_
          refine zk_getR hX dX4_callsOf_32 flX4_23 k_114 z_114 (hw _ _ (by decide) |>.trans r_114_5) ?_
          refine zk_iload hX dX4_callsOf_35 rfl ?_
          refine zk_ialdE hX dX4_callsOf_37 rfl k_126 z_126 (by first | assumption | omega) rfl ?_
          refine zk_iload_n hX dX4_callsOf_38 rfl ?_
          refine zk_icmp_ne (tgt := 45) hX dX4_callsOf_39 (by decide) (fun c39 => ?_) (fun c39 => ?_)
          · refine zk_iinc (lo' := [_, _, _, _, _]) hX dX4_callsOf_45 rfl (by first | exact zinc _ | exact rfl) (Nat.le_of_ble_eq_true rfl) rfl rfl ?_
            refine zk_goto (tgt := 5) hX dX4_callsOf_48 (by decide) ?_
            first | (rw [ht (by grind)]; exact ih (i + 1) (by omega)) | (rw [hf (by grind)]; exact ih (i + 1) (by omega))
          · refine zk_iinc (lo' := [_, _, _, _, _]) hX dX4_callsOf_42 rfl (by first | exact zinc _ | exact rfl) (Nat.le_of_ble_eq_true rfl) rfl rfl ?_
            refine zk_iinc (lo' := [_, _, _, _, _]) hX dX4_callsOf_45 rfl (by first | exact zinc _ | exact rfl) (Nat.le_of_ble_eq_true rfl) rfl rfl ?_
            refine zk_goto (tgt := 5) hX dX4_callsOf_48 (by decide) ?_
            first | (rw [ht (by grind)]; exact ih (i + 1) (by omega)) | (rw [hf (by grind)]; exact ih (i + 1) (by omega))
  refine zk_iconst (v := 0) hX dX4_callsOf_0 (by decide) ?_
  refine zk_istore_n (lo' := [_, _, _, _, _]) hX dX4_callsOf_1 (Nat.le_of_ble_eq_true rfl) rfl rfl ?_
  refine zk_iconst (v := 0) hX dX4_callsOf_2 (by decide) ?_
  refine zk_istore (lo' := [_, _, _, _, _]) hX dX4_callsOf_3 (Nat.le_of_ble_eq_true rfl) rfl rfl ?_
  exact loop m 0 (by omega)
theorem s_X9_share {G : zG} {w : zW} {p q : Nat} (hp : p ≤ 24) (hq : q ≤ 24) (hq0 : 0 < q) : zEv G mX9_share [.ref 1, .int (nI p), .int (nI q)] w (zsl (zsl w 1 1 (lN (p / Nat.gcd p q))) 1 2 (lN (q / Nat.gcd p q))) := by
  have hg : 0 < Nat.gcd p q := Nat.gcd_pos_of_pos_right _ hq0
  have hg2 : Nat.gcd p q ≤ 24 := Nat.le_trans (Nat.le_of_dvd hq0 (Nat.gcd_dvd_right p q)) hq
  refine zC_of (lo := [_, _, _, _, _, _, _]) kcX9_share (Nat.le_of_ble_eq_true rfl) rfl (fun X hX hE => ?_)
  have done : ∀ b i (v : Value), zk0 G X mX9_share 39 [.ref 1, .int (nI p), .int (nI q), .int (nI (Nat.gcd p q)), .int (nI b), .int (nI i), v] [] w := by
    intro b i v
    refine zk_iload_n hX dX9_share_39 rfl ?_
    refine zk_iconst (v := 1) hX dX9_share_40 (by decide) ?_
    refine zk_icmp_ge (tgt := 45) hX dX9_share_41 (by decide) (fun c41 => ?_) (fun c41 => ?_)
    rotate_left
    · exact absurd (by exact nI_le (a := 1) hg (by omega)) c41
    refine zk_aload_n hX dX9_share_45 rfl ?_
    refine zk_iload_n hX dX9_share_46 rfl ?_
    refine zk_iload_n hX dX9_share_47 rfl ?_
    refine zk_idiv hX dX9_share_48 (nI_ne0 hg (by omega)) ?_
    rw [nI_div (by omega) (by omega)]
    refine zk_i2l hX dX9_share_49 ?_
    rw [nI_l (Nat.lt_of_le_of_lt (Nat.div_le_self _ _) (by omega))]
    refine zk_putL hX dX9_share_50 plX9_26 (fun h => by cases h) k_1 z_1 ?_
    refine zk_aload_n hX dX9_share_53 rfl ?_
    refine zk_iload_n hX dX9_share_54 rfl ?_
    refine zk_iload_n hX dX9_share_55 rfl ?_
    refine zk_idiv hX dX9_share_56 (nI_ne0 hg (by omega)) ?_
    rw [nI_div (by omega) (by omega)]
    refine zk_i2l hX dX9_share_57 ?_
    rw [nI_l (Nat.lt_of_le_of_lt (Nat.div_le_self _ _) (by omega))]
    refine zk_putL hX dX9_share_58 plX9_9 (fun h => by cases h) k_1 z_1 ?_
    refine zk_vret hX hE rfl ⟨rfl, rfl⟩ dX9_share_61 ⟨rfl, ?_⟩
    rfl
  have loop : ∀ z a b i (v : Value), b + i ≤ 63 → i + z = 64 → a ≤ 24 → b ≤ 24 → Nat.gcd b a = Nat.gcd p q → zk0 G X mX9_share 8 [.ref 1, .int (nI p), .int (nI q), .int (nI a), .int (nI b), .int (nI i), v] [] w := by
    intro z
    induction z with
    | zero =>
      intro a b i v h1 h2
      omega
    | succ z ih =>
      intro a b i v h1 h2 ha hb h3
      rcases Nat.eq_zero_or_pos b with rfl | hb0
      · rw [Nat.gcd_zero_left] at h3
        subst h3
        refine zk_iload hX dX9_share_8 rfl ?_
        refine zk_bipush (v := 64) hX dX9_share_10 (by decide) ?_
        refine zk_icmp_ge (tgt := 39) hX dX9_share_12 (by decide) (fun c12 => ?_) (fun c12 => ?_)
        · exact absurd c12 (nI_ge (b := 64) (by omega) (by decide))
        refine zk_iload hX dX9_share_15 rfl ?_
        refine zk_if_le (tgt := 39) hX dX9_share_17 (by decide) (fun c17 => ?_) (fun c17 => ?_)
        rotate_left
        · exact absurd (nI_le (b := 0) (Nat.le_refl _) (by decide)) c17
        exact done 0 i v
      · have hlt := Nat.mod_lt a hb0
        refine zk_iload hX dX9_share_8 rfl ?_
        refine zk_bipush (v := 64) hX dX9_share_10 (by decide) ?_
        refine zk_icmp_ge (tgt := 39) hX dX9_share_12 (by decide) (fun c12 => ?_) (fun c12 => ?_)
        · exact absurd c12 (nI_ge (b := 64) (by omega) (by decide))
        refine zk_iload hX dX9_share_15 rfl ?_
        refine zk_if_le (tgt := 39) hX dX9_share_17 (by decide) (fun c17 => ?_) (fun c17 => ?_)
        · exact absurd c17 (nI_nle hb0 (by omega))
        refine zk_iload_n hX dX9_share_20 rfl ?_
        refine zk_iload hX dX9_share_21 rfl ?_
        refine zk_irem hX dX9_share_23 (nI_ne0 hb0 (by omega)) ?_
        rw [nI_rem (by omega) (by omega)]
        refine zk_istore (lo' := [_, _, _, _, _, _, _]) hX dX9_share_24 (Nat.le_of_ble_eq_true rfl) rfl rfl ?_
        refine zk_iload hX dX9_share_26 rfl ?_
        refine zk_istore_n (lo' := [_, _, _, _, _, _, _]) hX dX9_share_28 (Nat.le_of_ble_eq_true rfl) rfl rfl ?_
        refine zk_iload hX dX9_share_29 rfl ?_
        refine zk_istore (lo' := [_, _, _, _, _, _, _]) hX dX9_share_31 (Nat.le_of_ble_eq_true rfl) rfl rfl ?_
        refine zk_iinc (lo' := [_, _, _, _, _, _, _]) hX dX9_share_33 rfl (by first | exact zinc _ | exact rfl) (Nat.le_of_ble_eq_true rfl) rfl rfl ?_
        refine zk_goto (tgt := 8) hX dX9_share_36 (by decide) ?_
        exact ih b (a % b) (i + 1) _ (by omega) (by omega) hb (by omega) (by rw [← h3, ← Nat.gcd_rec])
  refine zk_iload_n hX dX9_share_0 rfl ?_
  refine zk_istore_n (lo' := [_, _, _, _, _, _, _]) hX dX9_share_1 (Nat.le_of_ble_eq_true rfl) rfl rfl ?_
  refine zk_iload_n hX dX9_share_2 rfl ?_
  refine zk_istore (lo' := [_, _, _, _, _, _, _]) hX dX9_share_3 (Nat.le_of_ble_eq_true rfl) rfl rfl ?_
  refine zk_iconst (v := 0) hX dX9_share_5 (by decide) ?_
  refine zk_istore (lo' := [_, _, _, _, _, _, _]) hX dX9_share_6 (Nat.le_of_ble_eq_true rfl) rfl rfl ?_
  exact loop 64 q p 0 _ (by omega) (by omega) hq hp rfl
theorem s_X12_fraction {G : zG} {w : zW} {p q : Nat} (hp : p ≤ 24) (hq : q ≤ 24) (hq0 : 0 < q) (ans : Int32) : zEi G mX12_fraction [.ref 166, .long (lN p), .long (lN q), .int ans] w ans (zsl (zsl w 166 3 (lN (p / Nat.gcd p q))) 166 4 (lN (q / Nat.gcd p q))) := by
  have hg : 0 < Nat.gcd p q := Nat.gcd_pos_of_pos_right _ hq0
  have hg2 : Nat.gcd p q ≤ 24 := Nat.le_trans (Nat.le_of_dvd hq0 (Nat.gcd_dvd_right p q)) hq
  refine zC_of (lo := [_, _, _, _, _, _, _, _, _, _, _, _]) kcX12_fraction (Nat.le_of_ble_eq_true rfl) rfl (fun X hX hE => ?_)
  have loop : ∀ z a b (v : Value), b ≤ z → a ≤ 24 → b ≤ 24 → Nat.gcd a b = Nat.gcd p q → zk0 G X mX12_fraction 6 [.ref 166, .long (lN p), .null, .long (lN q), .null, .int ans, .long (lN a), .null, .long (lN b), .null, v, .null] [] w := by
    intro z
    induction z with
    | zero =>
      intro a b v hz ha hb h3
      obtain rfl : b = 0 := Nat.le_zero.mp hz
      rw [Nat.gcd_zero_right] at h3
      subst h3
      refine zk_lload hX dX12_fraction_6 rfl ?_
      refine zk_lconst (v := 0) hX dX12_fraction_8 rfl ?_
      refine zk_lcmp hX dX12_fraction_9 ?_
      refine zk_if_eq (tgt := 31) hX dX12_fraction_10 (by decide) (fun c10 => ?_) (fun c10 => ?_)
      rotate_left
      · exact absurd ((lg_cmp_eq _ _).mpr rfl) c10
      refine zk_aload_n hX dX12_fraction_31 rfl ?_
      refine zk_lload_n hX dX12_fraction_32 rfl ?_
      refine zk_lload hX dX12_fraction_33 rfl ?_
      refine zk_ldiv hX dX12_fraction_35 (fun h => by have := (lN_inj (b := 0) (by omega) (by decide)).mp h; omega) ?_
      rw [lN_div (by omega) (by omega)]
      refine zk_putL hX dX12_fraction_36 plX12_138 (fun h => by cases h) k_166 z_166 ?_
      refine zk_aload_n hX dX12_fraction_39 rfl ?_
      refine zk_lload_n hX dX12_fraction_40 rfl ?_
      refine zk_lload hX dX12_fraction_41 rfl ?_
      refine zk_ldiv hX dX12_fraction_43 (fun h => by have := (lN_inj (b := 0) (by omega) (by decide)).mp h; omega) ?_
      rw [lN_div (by omega) (by omega)]
      refine zk_putL hX dX12_fraction_44 plX12_117 (fun h => by cases h) k_166 z_166 ?_
      refine zk_iload hX dX12_fraction_47 rfl ?_
      refine zk_iret hX hE rfl ⟨rfl, rfl⟩ dX12_fraction_49 ⟨_, rfl, ?_⟩
      exact ⟨rfl, rfl⟩
    | succ z ih =>
      intro a b v hz ha hb h3
      rcases Nat.eq_zero_or_pos b with rfl | hb0
      · exact ih a 0 v (by omega) ha hb h3
      · have hlt := Nat.mod_lt a hb0
        have hb1 : ¬ lN b = 0 := fun h => by have := (lN_inj (b := 0) (by omega) (by decide)).mp h; omega
        refine zk_lload hX dX12_fraction_6 rfl ?_
        refine zk_lconst (v := 0) hX dX12_fraction_8 rfl ?_
        refine zk_lcmp hX dX12_fraction_9 ?_
        refine zk_if_eq (tgt := 31) hX dX12_fraction_10 (by decide) (fun c10 => ?_) (fun c10 => ?_)
        · exact absurd c10 (fun h => hb1 ((lg_cmp_eq _ _).mp h))
        refine zk_lload hX dX12_fraction_13 rfl ?_
        refine zk_lload hX dX12_fraction_15 rfl ?_
        refine zk_lrem hX dX12_fraction_17 hb1 ?_
        rw [lN_rem (by omega) (by omega)]
        refine zk_lstore (lo' := [_, _, _, _, _, _, _, _, _, _, _, _]) hX dX12_fraction_18 (Nat.le_of_ble_eq_true rfl) rfl rfl ?_
        refine zk_lload hX dX12_fraction_20 rfl ?_
        refine zk_lstore (lo' := [_, _, _, _, _, _, _, _, _, _, _, _]) hX dX12_fraction_22 (Nat.le_of_ble_eq_true rfl) rfl rfl ?_
        refine zk_lload hX dX12_fraction_24 rfl ?_
        refine zk_lstore (lo' := [_, _, _, _, _, _, _, _, _, _, _, _]) hX dX12_fraction_26 (Nat.le_of_ble_eq_true rfl) rfl rfl ?_
        refine zk_goto (tgt := 6) hX dX12_fraction_28 (by decide) ?_
        exact ih b (a % b) _ (by omega) hb (by omega) (by rw [← h3, Nat.gcd_comm b, ← Nat.gcd_rec, Nat.gcd_comm])
  refine zk_lload_n hX dX12_fraction_0 rfl ?_
  refine zk_lstore (lo' := [_, _, _, _, _, _, _, _, _, _, _, _]) hX dX12_fraction_1 (Nat.le_of_ble_eq_true rfl) rfl rfl ?_
  refine zk_lload_n hX dX12_fraction_3 rfl ?_
  refine zk_lstore (lo' := [_, _, _, _, _, _, _, _, _, _, _, _]) hX dX12_fraction_4 (Nat.le_of_ble_eq_true rfl) rfl rfl ?_
  exact loop 24 p q _ hq hp hq rfl
theorem zn_le1 {x : Nat} (hx : x ≤ 4000) (i : Int32) : (0 ≤ i ∧ i ≤ nI x - 1) ↔ (0 ≤ i ∧ i < nI x) := zSz_le1 (L := 4000) (Or.inr ⟨x, hx, rfl⟩) (by decide)
theorem s_X12_isLooker {G : zG} {w : zW} {n : Nat} (hn : n ≤ 4000) (h : w.1 166 53 = nI n) (v : Int32) : zEi G mX12_isLooker [.ref 166, .int v] w (zb (0 ≤ v ∧ v < nI n)) w := by
  refine zC_of (lo := [_, _]) kcX12_isLooker (Nat.le_of_ble_eq_true rfl) rfl (fun X hX hE => ?_)
  refine zk_iload_n hX dX12_isLooker_0 rfl ?_
  refine zk_iconst (v := 0) hX dX12_isLooker_1 (by decide) ?_
  refine zk_aload_n hX dX12_isLooker_2 rfl ?_
  refine zk_getI hX dX12_isLooker_3 flX12_381 k_166 z_166 ?_
  refine zk_iconst (v := 1) hX dX12_isLooker_6 (by decide) ?_
  rw [h]
  refine zk_isub hX dX12_isLooker_7 ?_
  refine zk_S3i hX dX12_isLooker_8 kcX12_in mlX12_131 smX12_in rfl (s_X12_in _ _ _) (Nat.le_of_ble_eq_true rfl) rfl ?_
  refine zk_zret hX hE rfl ⟨rfl, rfl⟩ dX12_isLooker_11 (by simp [narrow, zb_and1]) ⟨_, rfl, ?_⟩
  exact ⟨zb_c (zn_le1 hn v), rfl⟩
theorem s_X12_isPose {G : zG} {w : zW} {n : Nat} (hn : n ≤ 4000) (h : w.1 166 33 = nI n) (v : Int32) : zEi G mX12_isPose [.ref 166, .int v] w (zb (0 ≤ v ∧ v < nI n)) w := by
  refine zC_of (lo := [_, _]) kcX12_isPose (Nat.le_of_ble_eq_true rfl) rfl (fun X hX hE => ?_)
  refine zk_iload_n hX dX12_isPose_0 rfl ?_
  refine zk_iconst (v := 0) hX dX12_isPose_1 (by decide) ?_
  refine zk_aload_n hX dX12_isPose_2 rfl ?_
  refine zk_getI hX dX12_isPose_3 flX12_202 k_166 z_166 ?_
  refine zk_iconst (v := 1) hX dX12_isPose_6 (by decide) ?_
  rw [h]
  refine zk_isub hX dX12_isPose_7 ?_
  refine zk_S3i hX dX12_isPose_8 kcX12_in mlX12_131 smX12_in rfl (s_X12_in _ _ _) (Nat.le_of_ble_eq_true rfl) rfl ?_
  refine zk_zret hX hE rfl ⟨rfl, rfl⟩ dX12_isPose_11 (by simp [narrow, zb_and1]) ⟨_, rfl, ?_⟩
  exact ⟨zb_c (zn_le1 hn v), rfl⟩
theorem s_X12_isJoint {G : zG} {w : zW} {n : Nat} (hn : n ≤ 4000) (h : w.1 166 12 = nI n) (v : Int32) : zEi G mX12_isJoint [.ref 166, .int v] w (zb (0 ≤ v ∧ v < nI n)) w := by
  refine zC_of (lo := [_, _]) kcX12_isJoint (Nat.le_of_ble_eq_true rfl) rfl (fun X hX hE => ?_)
  refine zk_iload_n hX dX12_isJoint_0 rfl ?_
  refine zk_iconst (v := 0) hX dX12_isJoint_1 (by decide) ?_
  refine zk_aload_n hX dX12_isJoint_2 rfl ?_
  refine zk_getI hX dX12_isJoint_3 flX12_199 k_166 z_166 ?_
  refine zk_iconst (v := 1) hX dX12_isJoint_6 (by decide) ?_
  rw [h]
  refine zk_isub hX dX12_isJoint_7 ?_
  refine zk_S3i hX dX12_isJoint_8 kcX12_in mlX12_131 smX12_in rfl (s_X12_in _ _ _) (Nat.le_of_ble_eq_true rfl) rfl ?_
  refine zk_zret hX hE rfl ⟨rfl, rfl⟩ dX12_isJoint_11 (by simp [narrow, zb_and1]) ⟨_, rfl, ?_⟩
  exact ⟨zb_c (zn_le1 hn v), rfl⟩
/-! weight -/
theorem s_X11_weight_bad {G : zG} {w : zW} (hw : zWf w) (l t : Int32) (h : ¬ ((0 ≤ l ∧ l < w.1 114 0) ∧ (0 ≤ t ∧ t < 3))) : zEi G mX11_weight [.ref 0, .int l, .int t] w (-1) w := by
  refine zC_of (lo := [_, _, _]) kcX11_weight (Nat.le_of_ble_eq_true rfl) rfl (fun X hX hE => ?_)
  refine zk_aload_n hX dX11_weight_0 rfl ?_
  refine zk_iload_n hX dX11_weight_1 rfl ?_
  refine zk_V1i hX dX11_weight_2 kcX11_isLooker mlX11_414 viX11_isLooker rfl k_0 z_0 (s_X11_isLooker hw _) (Nat.le_of_ble_eq_true rfl) rfl ?_
  refine zk_if_eqB (tgt := 17) hX dX11_weight_5 (by decide) (fun c5 => ?_) (fun c5 => ?_)
  · refine zk_iconst (v := -1) hX dX11_weight_17 (by decide) ?_
    refine zk_iret hX hE rfl ⟨rfl, rfl⟩ dX11_weight_18 ⟨_, rfl, ?_⟩
    exact ⟨rfl, rfl⟩
  · refine zk_iload_n hX dX11_weight_8 rfl ?_
    refine zk_if_lt (tgt := 17) hX dX11_weight_9 (by decide) (fun c9 => ?_) (fun c9 => ?_)
    · refine zk_iconst (v := -1) hX dX11_weight_17 (by decide) ?_
      refine zk_iret hX hE rfl ⟨rfl, rfl⟩ dX11_weight_18 ⟨_, rfl, ?_⟩
      exact ⟨rfl, rfl⟩
    · refine zk_iload_n hX dX11_weight_12 rfl ?_
      refine zk_iconst (v := 3) hX dX11_weight_13 (by decide) ?_
      refine zk_icmp_lt (tgt := 19) hX dX11_weight_14 (by decide) (fun c14 => ?_) (fun c14 => ?_)
      · exact absurd c14 (fun c => h ⟨c5, by grind, c⟩)
      refine zk_iconst (v := -1) hX dX11_weight_17 (by decide) ?_
      refine zk_iret hX hE rfl ⟨rfl, rfl⟩ dX11_weight_18 ⟨_, rfl, ?_⟩
      exact ⟨rfl, rfl⟩
theorem s_X11_weight {G : zG} {w : zW} (hw : zWf w) {n l t : Nat} (hn : n ≤ 8) (hN : w.1 114 0 = nI n) (hl : l < n) (ht : t < 3) : zEi G mX11_weight [.ref 0, .int (nI l), .int (nI t)] w 1 (zsi w 1 0 (w.1 (116 + l) t)) := by
  refine zC_of (lo := [_, _, _]) kcX11_weight (Nat.le_of_ble_eq_true rfl) rfl (fun X hX hE => ?_)
  refine zk_aload_n hX dX11_weight_0 rfl ?_
  refine zk_iload_n hX dX11_weight_1 rfl ?_
  refine zk_V1i hX dX11_weight_2 kcX11_isLooker mlX11_414 viX11_isLooker rfl k_0 z_0 (s_X11_isLooker hw _) (Nat.le_of_ble_eq_true rfl) rfl ?_
  refine zk_if_eqB (tgt := 17) hX dX11_weight_5 (by decide) (fun c5 => ?_) (fun c5 => ?_)
  · exact absurd c5 (not_not_intro ⟨nI_pos' (by omega), by rw [hN]; exact nI_lt hl (by omega)⟩)
  refine zk_iload_n hX dX11_weight_8 rfl ?_
  refine zk_if_lt (tgt := 17) hX dX11_weight_9 (by decide) (fun c9 => ?_) (fun c9 => ?_)
  · exact absurd c9 (nI_pos (by omega))
  refine zk_iload_n hX dX11_weight_12 rfl ?_
  refine zk_iconst (v := 3) hX dX11_weight_13 (by decide) ?_
  refine zk_icmp_lt (tgt := 19) hX dX11_weight_14 (by decide) (fun c14 => ?_) (fun c14 => ?_)
  rotate_left
  · exact absurd (nI_lt (b := 3) ht (by decide)) c14
  refine zk_aload_n hX dX11_weight_19 rfl ?_
  refine zk_getR hX dX11_weight_20 flX11_12 k_0 z_0 (hw _ _ (by decide) |>.trans r_0_0) ?_
  refine zk_aload_n hX dX11_weight_23 rfl ?_
  refine zk_getR hX dX11_weight_24 flX11_76 k_0 z_0 (hw _ _ (by decide) |>.trans r_0_12) ?_
  refine zk_getR hX dX11_weight_27 flX11_417 k_114 z_114 (hw _ _ (by decide) |>.trans r_114_1) ?_
  refine zk_iload_n hX dX11_weight_30 rfl ?_
  refine zk_weights hX hw dX11_weight_31 rfl (by first | assumption | omega) ?_
  refine zk_iload_n hX dX11_weight_32 rfl ?_
  refine zk_ialdE hX dX11_weight_33 rfl (zWrk (by first | assumption | omega)) (zWrz _ (by first | assumption | omega)) (by first | assumption | omega) rfl ?_
  refine zk_V1i hX dX11_weight_34 kcX9_tell mlX11_132 viX9_tell rfl k_1 z_1 (s_X9_tell _) (Nat.le_of_ble_eq_true rfl) rfl ?_
  refine zk_iret hX hE rfl ⟨rfl, rfl⟩ dX11_weight_37 ⟨_, rfl, ?_⟩
  exact ⟨rfl, rfl⟩
theorem s_X12_weight_bad {G : zG} {w : zW} {n : Nat} (hn : n ≤ 4000) (hN : w.1 166 53 = nI n) (l t : Int32) (h : ¬ ((0 ≤ l ∧ l < nI n) ∧ (0 ≤ t ∧ t ≤ 2))) : zEi G mX12_weight [.ref 166, .int l, .int t] w (-1) w := by
  refine zC_of (lo := [_, _, _]) kcX12_weight (Nat.le_of_ble_eq_true rfl) rfl (fun X hX hE => ?_)
  refine zk_aload_n hX dX12_weight_0 rfl ?_
  refine zk_iload_n hX dX12_weight_1 rfl ?_
  refine zk_V1i hX dX12_weight_2 kcX12_isLooker mlX12_384 viX12_isLooker rfl k_166 z_166 (s_X12_isLooker hn hN _) (Nat.le_of_ble_eq_true rfl) rfl ?_
  refine zk_if_eqB (tgt := 35) hX dX12_weight_5 (by decide) (fun c5 => ?_) (fun c5 => ?_)
  · refine zk_iconst (v := -1) hX dX12_weight_35 (by decide) ?_
    refine zk_iret hX hE rfl ⟨rfl, rfl⟩ dX12_weight_36 ⟨_, rfl, ?_⟩
    exact ⟨rfl, rfl⟩
  · refine zk_iload_n hX dX12_weight_8 rfl ?_
    refine zk_iconst (v := 0) hX dX12_weight_9 (by decide) ?_
    refine zk_iconst (v := 2) hX dX12_weight_10 (by decide) ?_
    refine zk_S3i hX dX12_weight_11 kcX12_in mlX12_131 smX12_in rfl (s_X12_in _ _ _) (Nat.le_of_ble_eq_true rfl) rfl ?_
    refine zk_if_eqB (tgt := 35) hX dX12_weight_14 (by decide) (fun c14 => ?_) (fun c14 => ?_)
    rotate_left
    · exact absurd c14 (fun c => h ⟨c5, c⟩)
    refine zk_iconst (v := -1) hX dX12_weight_35 (by decide) ?_
    refine zk_iret hX hE rfl ⟨rfl, rfl⟩ dX12_weight_36 ⟨_, rfl, ?_⟩
    exact ⟨rfl, rfl⟩
theorem s_X12_weight {G : zG} {w : zW} (hw : zWf w) {n l t : Nat} (hn : n ≤ 8) (hN : w.1 166 53 = nI n) (hl : l < n) (ht : t < 3) : zEi G mX12_weight [.ref 166, .int (nI l), .int (nI t)] w 1 (zsi w 166 2 (w.1 200 (3 * l + t))) := by
  refine zC_of (lo := [_, _, _]) kcX12_weight (Nat.le_of_ble_eq_true rfl) rfl (fun X hX hE => ?_)
  refine zk_aload_n hX dX12_weight_0 rfl ?_
  refine zk_iload_n hX dX12_weight_1 rfl ?_
  refine zk_V1i hX dX12_weight_2 kcX12_isLooker mlX12_384 viX12_isLooker rfl k_166 z_166 (s_X12_isLooker (by omega) hN _) (Nat.le_of_ble_eq_true rfl) rfl ?_
  refine zk_if_eqB (tgt := 35) hX dX12_weight_5 (by decide) (fun c5 => ?_) (fun c5 => ?_)
  · exact absurd c5 (not_not_intro ⟨nI_pos' (by omega), nI_lt hl (by omega)⟩)
  refine zk_iload_n hX dX12_weight_8 rfl ?_
  refine zk_iconst (v := 0) hX dX12_weight_9 (by decide) ?_
  refine zk_iconst (v := 2) hX dX12_weight_10 (by decide) ?_
  refine zk_S3i hX dX12_weight_11 kcX12_in mlX12_131 smX12_in rfl (s_X12_in _ _ _) (Nat.le_of_ble_eq_true rfl) rfl ?_
  refine zk_if_eqB (tgt := 35) hX dX12_weight_14 (by decide) (fun c14 => ?_) (fun c14 => ?_)
  · exact absurd c14 (not_not_intro (zrle (n := 2) (by omega)))
  refine zk_aload_n hX dX12_weight_17 rfl ?_
  refine zk_aload_n hX dX12_weight_18 rfl ?_
  refine zk_getR hX dX12_weight_19 flX12_111 k_166 z_166 (hw _ _ (by decide) |>.trans r_166_54) ?_
  refine zk_iconst (v := 3) hX dX12_weight_22 (by decide) ?_
  refine zk_iload_n hX dX12_weight_23 rfl ?_
  refine zk_imul hX dX12_weight_24 ?_
  refine zk_iload_n hX dX12_weight_25 rfl ?_
  refine zk_iadd hX dX12_weight_26 ?_
  refine zk_ialdE hX dX12_weight_27 (nI_addE (nI_mulE (nI_k 3 rfl) rfl) rfl) k_200 z_200 (by first | assumption | omega) rfl ?_
  refine zk_iconst (v := 1) hX dX12_weight_28 (by decide) ?_
  refine zk_V2i hX dX12_weight_29 kcX12_tells mlX12_153 viX12_tells rfl k_166 z_166 (s_X12_tells _ _) (Nat.le_of_ble_eq_true rfl) rfl ?_
  refine zk_goto (tgt := 36) hX dX12_weight_32 (by decide) ?_
  refine zk_iret hX hE rfl ⟨rfl, rfl⟩ dX12_weight_36 ⟨_, rfl, ?_⟩
  exact ⟨rfl, rfl⟩
/-! call -/
theorem s_X11_call_bad {G : zG} {w : zW} (hw : zWf w) (l p k : Int32) (h : ¬ ((0 ≤ l ∧ l < w.1 114 0) ∧ (0 ≤ p ∧ p < w.1 0 10) ∧ (0 ≤ k ∧ k < 6))) : zEi G mX11_call [.ref 0, .int l, .int p, .int k] w (-1) w := by
  refine zC_of (lo := [_, _, _, _]) kcX11_call (Nat.le_of_ble_eq_true rfl) rfl (fun X hX hE => ?_)
  refine zk_aload_n hX dX11_call_0 rfl ?_
  refine zk_iload_n hX dX11_call_1 rfl ?_
  refine zk_V1i hX dX11_call_2 kcX11_isLooker mlX11_414 viX11_isLooker rfl k_0 z_0 (s_X11_isLooker hw _) (Nat.le_of_ble_eq_true rfl) rfl ?_
  refine zk_if_eqB (tgt := 23) hX dX11_call_5 (by decide) (fun c5 => ?_) (fun c5 => ?_)
  · refine zk_iconst (v := -1) hX dX11_call_23 (by decide) ?_
    refine zk_iret hX hE rfl ⟨rfl, rfl⟩ dX11_call_24 ⟨_, rfl, ?_⟩
    exact ⟨rfl, rfl⟩
  · refine zk_aload_n hX dX11_call_8 rfl ?_
    refine zk_iload_n hX dX11_call_9 rfl ?_
    refine zk_V1i hX dX11_call_10 kcX11_isPose mlX11_227 viX11_isPose rfl k_0 z_0 (s_X11_isPose hw _) (Nat.le_of_ble_eq_true rfl) rfl ?_
    refine zk_if_eqB (tgt := 23) hX dX11_call_13 (by decide) (fun c13 => ?_) (fun c13 => ?_)
    · refine zk_iconst (v := -1) hX dX11_call_23 (by decide) ?_
      refine zk_iret hX hE rfl ⟨rfl, rfl⟩ dX11_call_24 ⟨_, rfl, ?_⟩
      exact ⟨rfl, rfl⟩
    · refine zk_iload_n hX dX11_call_16 rfl ?_
      refine zk_S1i hX dX11_call_17 kcX11_isBeast mlX11_272 smX11_isBeast rfl (s_X11_isBeast _) (Nat.le_of_ble_eq_true rfl) rfl ?_
      refine zk_if_neB (tgt := 25) hX dX11_call_20 (by decide) (fun c20 => ?_) (fun c20 => ?_)
      · exact absurd c20 (fun c => h ⟨c5, c13, c⟩)
      refine zk_iconst (v := -1) hX dX11_call_23 (by decide) ?_
      refine zk_iret hX hE rfl ⟨rfl, rfl⟩ dX11_call_24 ⟨_, rfl, ?_⟩
      exact ⟨rfl, rfl⟩
def c_call (w : zW) (n : Nat) (l p : Int32) (k : Nat) : Int32 × zW := if w.1 (96 + 3 * k) 3 = 0 then (-3, zfind w 1) else if n < 24 then (nI n, zsi (zsetCall w n l p (nI k)) 114 2 (nI (n + 1))) else (-2, w)
theorem s_X11_call {G : zG} {w : zW} (hw : zWf w) {n k : Nat} (hn : n ≤ 24) (hN : w.1 114 2 = nI n) (hk : k < 6) (l p : Int32) (h : (0 ≤ l ∧ l < w.1 114 0) ∧ (0 ≤ p ∧ p < w.1 0 10)) : zFi G mX11_call [.ref 0, .int l, .int p, .int (nI k)] w (c_call w n l p k) := by
  refine zC_of (lo := [_, _, _, _]) kcX11_call (Nat.le_of_ble_eq_true rfl) rfl (fun X hX hE => ?_)
  refine zk_aload_n hX dX11_call_0 rfl ?_
  refine zk_iload_n hX dX11_call_1 rfl ?_
  refine zk_V1i hX dX11_call_2 kcX11_isLooker mlX11_414 viX11_isLooker rfl k_0 z_0 (s_X11_isLooker hw _) (Nat.le_of_ble_eq_true rfl) rfl ?_
  refine zk_if_eqB (tgt := 23) hX dX11_call_5 (by decide) (fun c5 => ?_) (fun c5 => ?_)
  · exact absurd c5 (not_not_intro h.1)
  refine zk_aload_n hX dX11_call_8 rfl ?_
  refine zk_iload_n hX dX11_call_9 rfl ?_
  refine zk_V1i hX dX11_call_10 kcX11_isPose mlX11_227 viX11_isPose rfl k_0 z_0 (s_X11_isPose hw _) (Nat.le_of_ble_eq_true rfl) rfl ?_
  refine zk_if_eqB (tgt := 23) hX dX11_call_13 (by decide) (fun c13 => ?_) (fun c13 => ?_)
  · exact absurd c13 (not_not_intro h.2)
  refine zk_iload_n hX dX11_call_16 rfl ?_
  refine zk_S1i hX dX11_call_17 kcX11_isBeast mlX11_272 smX11_isBeast rfl (s_X11_isBeast _) (Nat.le_of_ble_eq_true rfl) rfl ?_
  refine zk_if_neB (tgt := 25) hX dX11_call_20 (by decide) (fun c20 => ?_) (fun c20 => ?_)
  rotate_left
  · exact absurd (zrlt hk) c20
  refine zk_aload_n hX dX11_call_25 rfl ?_
  refine zk_getR hX dX11_call_26 flX11_68 k_0 z_0 (hw _ _ (by decide) |>.trans r_0_11) ?_
  refine zk_iload_n hX dX11_call_29 rfl ?_
  refine zk_beasts hX hw dX11_call_30 rfl (by first | assumption | omega) ?_
  refine zk_getI hX dX11_call_31 flX11_284 (zBek (by first | assumption | omega)) (zBez _ (by first | assumption | omega)).1 ?_
  refine zk_if_ne (tgt := 46) hX dX11_call_34 (by decide) (fun c34 => ?_) (fun c34 => ?_)
  · refine zk_aload_n hX dX11_call_46 rfl ?_
    refine zk_getR hX dX11_call_47 flX11_76 k_0 z_0 (hw _ _ (by decide) |>.trans r_0_12) ?_
    refine zk_getI hX dX11_call_50 flX11_421 k_114 z_114 ?_
    rw [hN]
    refine zk_bipush (v := 24) hX dX11_call_53 (by decide) ?_
    refine zk_icmp_lt (tgt := 61) hX dX11_call_55 (by decide) (fun c55 => ?_) (fun c55 => ?_)
    · have hn8 : n < 24 := (nI_ltI (b := 24) (by omega) (by decide)).mp c55
      refine zk_aload_n hX dX11_call_61 rfl ?_
      refine zk_getR hX dX11_call_62 flX11_76 k_0 z_0 (hw _ _ (by decide) |>.trans r_0_12) ?_
      refine zk_iload_n hX dX11_call_65 rfl ?_
      refine zk_iload_n hX dX11_call_66 rfl ?_
      refine zk_iload_n hX dX11_call_67 rfl ?_
      refine zk_V3i hX dX11_call_68 kcX4_addCall mlX11_424 viX4_addCall rfl k_114 z_114 (s_X4_addCall hw hn8 hN _ _ _) (Nat.le_of_ble_eq_true rfl) rfl ?_
      refine zk_iret hX hE rfl ⟨rfl, rfl⟩ dX11_call_71 ⟨_, rfl, ?_⟩
      unfold c_call; rw [if_neg c34, if_pos hn8]; exact ⟨rfl, rfl⟩
    · refine zk_bipush (v := -2) hX dX11_call_58 (by decide) ?_
      refine zk_iret hX hE rfl ⟨rfl, rfl⟩ dX11_call_60 ⟨_, rfl, ?_⟩
      unfold c_call; rw [if_neg c34, if_neg (fun q => c55 (nI_lt (b := 24) q (by decide)))]; exact ⟨rfl, rfl⟩
  · refine zk_aload_n hX dX11_call_37 rfl ?_
    refine zk_getR hX dX11_call_38 flX11_12 k_0 z_0 (hw _ _ (by decide) |>.trans r_0_0) ?_
    refine zk_iconst (v := 1) hX dX11_call_41 (by decide) ?_
    refine zk_V1i hX dX11_call_42 kcX9_find mlX11_111 viX9_find rfl k_1 z_1 (s_X9_find hw _ (by decide)) (Nat.le_of_ble_eq_true rfl) rfl ?_
    refine zk_iret hX hE rfl ⟨rfl, rfl⟩ dX11_call_45 ⟨_, rfl, ?_⟩
    unfold c_call; rw [if_pos c34]; exact ⟨rfl, rfl⟩
theorem s_X12_call_bad {G : zG} {w : zW} {n m : Nat} (hn : n ≤ 4000) (hN : w.1 166 53 = nI n) (hm : m ≤ 4000) (hM : w.1 166 33 = nI m) (l p k : Int32) (h : ¬ ((0 ≤ l ∧ l < nI n) ∧ (0 ≤ p ∧ p < nI m) ∧ (0 ≤ k ∧ k < 6))) : zEi G mX12_call [.ref 166, .int l, .int p, .int k] w (-1) w := by
  refine zC_of (lo := [_, _, _, _]) kcX12_call (Nat.le_of_ble_eq_true rfl) rfl (fun X hX hE => ?_)
  refine zk_aload_n hX dX12_call_0 rfl ?_
  refine zk_iload_n hX dX12_call_1 rfl ?_
  refine zk_V1i hX dX12_call_2 kcX12_isLooker mlX12_384 viX12_isLooker rfl k_166 z_166 (s_X12_isLooker hn hN _) (Nat.le_of_ble_eq_true rfl) rfl ?_
  refine zk_if_eqB (tgt := 23) hX dX12_call_5 (by decide) (fun c5 => ?_) (fun c5 => ?_)
  · refine zk_iconst (v := -1) hX dX12_call_23 (by decide) ?_
    refine zk_iret hX hE rfl ⟨rfl, rfl⟩ dX12_call_24 ⟨_, rfl, ?_⟩
    exact ⟨rfl, rfl⟩
  · refine zk_aload_n hX dX12_call_8 rfl ?_
    refine zk_iload_n hX dX12_call_9 rfl ?_
    refine zk_V1i hX dX12_call_10 kcX12_isPose mlX12_290 viX12_isPose rfl k_166 z_166 (s_X12_isPose hm hM _) (Nat.le_of_ble_eq_true rfl) rfl ?_
    refine zk_if_eqB (tgt := 23) hX dX12_call_13 (by decide) (fun c13 => ?_) (fun c13 => ?_)
    · refine zk_iconst (v := -1) hX dX12_call_23 (by decide) ?_
      refine zk_iret hX hE rfl ⟨rfl, rfl⟩ dX12_call_24 ⟨_, rfl, ?_⟩
      exact ⟨rfl, rfl⟩
    · refine zk_iload_n hX dX12_call_16 rfl ?_
      refine zk_S1i hX dX12_call_17 kcX12_isBeast mlX12_317 smX12_isBeast rfl (s_X12_isBeast' _) (Nat.le_of_ble_eq_true rfl) rfl ?_
      refine zk_if_neB (tgt := 25) hX dX12_call_20 (by decide) (fun c20 => ?_) (fun c20 => ?_)
      · exact absurd c20 (fun c => h ⟨c5, c13, by grind⟩)
      refine zk_iconst (v := -1) hX dX12_call_23 (by decide) ?_
      refine zk_iret hX hE rfl ⟨rfl, rfl⟩ dX12_call_24 ⟨_, rfl, ?_⟩
      exact ⟨rfl, rfl⟩
def m_call (w : zW) (n : Nat) (l p : Int32) (k : Nat) : Int32 × zW := if w.1 186 k = 0 then (-3, mfind w 1) else if n < 24 then (nI n, zsi (zsi (zsi (zsi w 201 (3 * n) l) 201 (3 * n + 1) p) 201 (3 * n + 2) (nI k)) 166 55 (nI (n + 1))) else (-2, w)
theorem s_X12_call {G : zG} {w : zW} (hw : zWf w) {n nl np k : Nat} (hn : n ≤ 24) (hN : w.1 166 55 = nI n) (hnl : nl ≤ 4000) (hNl : w.1 166 53 = nI nl) (hnp : np ≤ 4000) (hNp : w.1 166 33 = nI np) (hk : k < 6) (l p : Int32) (h : (0 ≤ l ∧ l < nI nl) ∧ (0 ≤ p ∧ p < nI np)) : zFi G mX12_call [.ref 166, .int l, .int p, .int (nI k)] w (m_call w n l p k) := by
  refine zC_of (lo := [_, _, _, _]) kcX12_call (Nat.le_of_ble_eq_true rfl) rfl (fun X hX hE => ?_)
  refine zk_aload_n hX dX12_call_0 rfl ?_
  refine zk_iload_n hX dX12_call_1 rfl ?_
  refine zk_V1i hX dX12_call_2 kcX12_isLooker mlX12_384 viX12_isLooker rfl k_166 z_166 (s_X12_isLooker hnl hNl _) (Nat.le_of_ble_eq_true rfl) rfl ?_
  refine zk_if_eqB (tgt := 23) hX dX12_call_5 (by decide) (fun c5 => ?_) (fun c5 => ?_)
  · exact absurd c5 (not_not_intro h.1)
  refine zk_aload_n hX dX12_call_8 rfl ?_
  refine zk_iload_n hX dX12_call_9 rfl ?_
  refine zk_V1i hX dX12_call_10 kcX12_isPose mlX12_290 viX12_isPose rfl k_166 z_166 (s_X12_isPose hnp hNp _) (Nat.le_of_ble_eq_true rfl) rfl ?_
  refine zk_if_eqB (tgt := 23) hX dX12_call_13 (by decide) (fun c13 => ?_) (fun c13 => ?_)
  · exact absurd c13 (not_not_intro h.2)
  refine zk_iload_n hX dX12_call_16 rfl ?_
  refine zk_S1i hX dX12_call_17 kcX12_isBeast mlX12_317 smX12_isBeast rfl (s_X12_isBeast' _) (Nat.le_of_ble_eq_true rfl) rfl ?_
  refine zk_if_neB (tgt := 25) hX dX12_call_20 (by decide) (fun c20 => ?_) (fun c20 => ?_)
  rotate_left
  · exact absurd (zrle (n := 5) (by omega)) c20
  refine zk_aload_n hX dX12_call_25 rfl ?_
  refine zk_getR hX dX12_call_26 flX12_68 k_166 z_166 (hw _ _ (by decide) |>.trans r_166_37) ?_
  refine zk_iload_n hX dX12_call_29 rfl ?_
  refine zk_zaldE hX dX12_call_30 rfl k_186 z_186 (by first | assumption | omega) rfl ?_
  refine zk_if_ne (tgt := 40) hX dX12_call_31 (by decide) (fun c31 => ?_) (fun c31 => ?_)
  · refine zk_aload_n hX dX12_call_40 rfl ?_
    refine zk_getI hX dX12_call_41 flX12_205 k_166 z_166 ?_
    rw [hN]
    refine zk_bipush (v := 24) hX dX12_call_44 (by decide) ?_
    refine zk_icmp_ne (tgt := 52) hX dX12_call_46 (by decide) (fun c46 => ?_) (fun c46 => ?_)
    · have hn8 : n < 24 := by
        rcases Nat.lt_or_ge n 24 with q | q
        · exact q
        · exact absurd (show nI n = 24 by rw [show n = 24 by omega]; rfl) c46
      refine zk_aload_n hX dX12_call_52 rfl ?_
      refine zk_getR hX dX12_call_53 flX12_114 k_166 z_166 (hw _ _ (by decide) |>.trans r_166_56) ?_
      refine zk_iconst (v := 3) hX dX12_call_56 (by decide) ?_
      refine zk_aload_n hX dX12_call_57 rfl ?_
      refine zk_getI hX dX12_call_58 flX12_205 k_166 z_166 ?_
      rw [hN]
      refine zk_imul hX dX12_call_61 ?_
      refine zk_iload_n hX dX12_call_62 rfl ?_
      refine zk_iastE hX dX12_call_63 (nI_mulE (nI_k 3 rfl) rfl) k_201 z_201 (by first | assumption | omega) rfl ?_
      refine zk_aload_n hX dX12_call_64 rfl ?_
      refine zk_getR hX dX12_call_65 flX12_114 k_166 z_166 ((zWf_i hw) _ _ (by decide) |>.trans r_166_56) ?_
      refine zk_iconst (v := 3) hX dX12_call_68 (by decide) ?_
      refine zk_aload_n hX dX12_call_69 rfl ?_
      refine zk_getI hX dX12_call_70 flX12_205 k_166 z_166 ?_
      rw [show (zsi w 201 (3 * n) l).1 166 55 = nI n by rw [zsi_1, if_neg (by omega), hN]]
      refine zk_imul hX dX12_call_73 ?_
      refine zk_iconst (v := 1) hX dX12_call_74 (by decide) ?_
      refine zk_iadd hX dX12_call_75 ?_
      refine zk_iload_n hX dX12_call_76 rfl ?_
      refine zk_iastE hX dX12_call_77 (nI_addE (nI_mulE (nI_k 3 rfl) rfl) (nI_k 1 rfl)) k_201 z_201 (by first | assumption | omega) rfl ?_
      refine zk_aload_n hX dX12_call_78 rfl ?_
      refine zk_getR hX dX12_call_79 flX12_114 k_166 z_166 ((zWf_i (zWf_i hw)) _ _ (by decide) |>.trans r_166_56) ?_
      refine zk_iconst (v := 3) hX dX12_call_82 (by decide) ?_
      refine zk_aload_n hX dX12_call_83 rfl ?_
      refine zk_getI hX dX12_call_84 flX12_205 k_166 z_166 ?_
      rw [show (zsi (zsi w 201 (3 * n) l) 201 (3 * n + 1) p).1 166 55 = nI n by rw [zsi_1, if_neg (by omega), zsi_1, if_neg (by omega), hN]]
      refine zk_imul hX dX12_call_87 ?_
      refine zk_iconst (v := 2) hX dX12_call_88 (by decide) ?_
      refine zk_iadd hX dX12_call_89 ?_
      refine zk_iload_n hX dX12_call_90 rfl ?_
      refine zk_iastE hX dX12_call_91 (nI_addE (nI_mulE (nI_k 3 rfl) rfl) (nI_k 2 rfl)) k_201 z_201 (by first | assumption | omega) rfl ?_
      refine zk_aload_n hX dX12_call_92 rfl ?_
      refine zk_dup hX dX12_call_93 rfl ?_
      refine zk_getI hX dX12_call_94 flX12_205 k_166 z_166 ?_
      rw [show (zsi (zsi (zsi w 201 (3 * n) l) 201 (3 * n + 1) p) 201 (3 * n + 2) (nI k)).1 166 55 = nI n by rw [zsi_1, if_neg (by omega), zsi_1, if_neg (by omega), zsi_1, if_neg (by omega), hN]]
      refine zk_iconst (v := 1) hX dX12_call_97 (by decide) ?_
      refine zk_iadd hX dX12_call_98 ?_
      rw [← nI_succ]
      refine zk_putI hX dX12_call_99 plX12_205 (fun h => by cases h) k_166 z_166 rfl rfl ?_
      refine zk_aload_n hX dX12_call_102 rfl ?_
      refine zk_getI hX dX12_call_103 flX12_205 k_166 z_166 ?_
      refine zk_iconst (v := 1) hX dX12_call_106 (by decide) ?_
      refine zk_isub hX dX12_call_107 ?_
      refine zk_iret hX hE rfl ⟨rfl, rfl⟩ dX12_call_108 ⟨_, rfl, ?_⟩
      unfold m_call; rw [if_neg c31, if_pos hn8]; exact ⟨by rw [zsi_1, if_pos ⟨rfl, rfl⟩, nI_pred], rfl⟩
    · refine zk_bipush (v := -2) hX dX12_call_49 (by decide) ?_
      refine zk_iret hX hE rfl ⟨rfl, rfl⟩ dX12_call_51 ⟨_, rfl, ?_⟩
      unfold m_call; rw [if_neg c31, if_neg (fun q => by have h9 : nI n = nI 24 := c46; rw [nI_eq (by omega) (by decide)] at h9; omega)]; exact ⟨rfl, rfl⟩
  · refine zk_aload_n hX dX12_call_34 rfl ?_
    refine zk_iconst (v := 1) hX dX12_call_35 (by decide) ?_
    refine zk_V1i hX dX12_call_36 kcX12_meets mlX12_145 viX12_meets rfl k_166 z_166 (s_X12_meets hw _ (by decide)) (Nat.le_of_ble_eq_true rfl) rfl ?_
    refine zk_iret hX hE rfl ⟨rfl, rfl⟩ dX12_call_39 ⟨_, rfl, ?_⟩
    unfold m_call; rw [if_pos c31]; exact ⟨rfl, rfl⟩
/-! odds -/
theorem s_X11_odds_bad {G : zG} {w : zW} (hw : zWf w) (p k : Int32) (h : ¬ ((0 ≤ p ∧ p < w.1 0 10) ∧ (0 ≤ k ∧ k < 6))) : zEi G mX11_odds [.ref 0, .int p, .int k] w (-1) w := by
  refine zC_of (lo := [_, _, _, _]) kcX11_odds (Nat.le_of_ble_eq_true rfl) rfl (fun X hX hE => ?_)
  refine zk_aload_n hX dX11_odds_0 rfl ?_
  refine zk_iload_n hX dX11_odds_1 rfl ?_
  refine zk_V1i hX dX11_odds_2 kcX11_isPose mlX11_227 viX11_isPose rfl k_0 z_0 (s_X11_isPose hw _) (Nat.le_of_ble_eq_true rfl) rfl ?_
  refine zk_if_eqB (tgt := 15) hX dX11_odds_5 (by decide) (fun c5 => ?_) (fun c5 => ?_)
  · refine zk_iconst (v := -1) hX dX11_odds_15 (by decide) ?_
    refine zk_iret hX hE rfl ⟨rfl, rfl⟩ dX11_odds_16 ⟨_, rfl, ?_⟩
    exact ⟨rfl, rfl⟩
  · refine zk_iload_n hX dX11_odds_8 rfl ?_
    refine zk_S1i hX dX11_odds_9 kcX11_isBeast mlX11_272 smX11_isBeast rfl (s_X11_isBeast _) (Nat.le_of_ble_eq_true rfl) rfl ?_
    refine zk_if_neB (tgt := 17) hX dX11_odds_12 (by decide) (fun c12 => ?_) (fun c12 => ?_)
    · exact absurd c12 (fun c => h ⟨c5, c⟩)
    refine zk_iconst (v := -1) hX dX11_odds_15 (by decide) ?_
    refine zk_iret hX hE rfl ⟨rfl, rfl⟩ dX11_odds_16 ⟨_, rfl, ?_⟩
    exact ⟨rfl, rfl⟩
def zodds (w : zW) (o a b : Nat) (p q : Nat) : zW := zsl (zsl w o a (lN (p / Nat.gcd p q))) o b (lN (q / Nat.gcd p q))
def c_odds (w : zW) (m : Nat) (p k : Int32) : Int32 × zW := if zcnt (zofP w p (-9)) m = 0 then (-3, zfind w 4) else (nI (zcnt (zofP w p (-9)) m), zodds w 1 1 2 (zcnt (zofP w p k) m) (zcnt (zofP w p (-9)) m))
theorem s_X11_odds {G : zG} {w : zW} (hw : zWf w) {m : Nat} (hm : m ≤ 24) (hM : w.1 114 2 = nI m) (p k : Int32) (h : (0 ≤ p ∧ p < w.1 0 10) ∧ (0 ≤ k ∧ k < 6)) : zFi G mX11_odds [.ref 0, .int p, .int k] w (c_odds w m p k) := by
  have g1 := zcnt_le (zofP w p (-9)) m
  have g2 := zcnt_le (zofP w p k) m
  refine zC_of (lo := [_, _, _, _]) kcX11_odds (Nat.le_of_ble_eq_true rfl) rfl (fun X hX hE => ?_)
  refine zk_aload_n hX dX11_odds_0 rfl ?_
  refine zk_iload_n hX dX11_odds_1 rfl ?_
  refine zk_V1i hX dX11_odds_2 kcX11_isPose mlX11_227 viX11_isPose rfl k_0 z_0 (s_X11_isPose hw _) (Nat.le_of_ble_eq_true rfl) rfl ?_
  refine zk_if_eqB (tgt := 15) hX dX11_odds_5 (by decide) (fun c5 => ?_) (fun c5 => ?_)
  · exact absurd c5 (not_not_intro h.1)
  refine zk_iload_n hX dX11_odds_8 rfl ?_
  refine zk_S1i hX dX11_odds_9 kcX11_isBeast mlX11_272 smX11_isBeast rfl (s_X11_isBeast _) (Nat.le_of_ble_eq_true rfl) rfl ?_
  refine zk_if_neB (tgt := 17) hX dX11_odds_12 (by decide) (fun c12 => ?_) (fun c12 => ?_)
  rotate_left
  · exact absurd h.2 c12
  refine zk_aload_n hX dX11_odds_17 rfl ?_
  refine zk_getR hX dX11_odds_18 flX11_76 k_0 z_0 (hw _ _ (by decide) |>.trans r_0_12) ?_
  refine zk_iload_n hX dX11_odds_21 rfl ?_
  refine zk_bipush (v := -9) hX dX11_odds_22 (by decide) ?_
  refine zk_V2i hX dX11_odds_24 kcX4_callsOf mlX11_461 viX4_callsOf rfl k_114 z_114 (s_X4_callsOf hw hm hM _ _) (Nat.le_of_ble_eq_true rfl) rfl ?_
  refine zk_istore_n (lo' := [_, _, _, _]) hX dX11_odds_27 (Nat.le_of_ble_eq_true rfl) rfl rfl ?_
  refine zk_iload_n hX dX11_odds_28 rfl ?_
  refine zk_iconst (v := 1) hX dX11_odds_29 (by decide) ?_
  refine zk_icmp_ge (tgt := 42) hX dX11_odds_30 (by decide) (fun c30 => ?_) (fun c30 => ?_)
  · have h0 : 0 < zcnt (zofP w p (-9)) m := by
      rcases Nat.eq_zero_or_pos (zcnt (zofP w p (-9)) m) with q | q
      · rw [q] at c30; exact absurd c30 (by decide)
      · exact q
    refine zk_aload_n hX dX11_odds_42 rfl ?_
    refine zk_getR hX dX11_odds_43 flX11_12 k_0 z_0 (hw _ _ (by decide) |>.trans r_0_0) ?_
    refine zk_aload_n hX dX11_odds_46 rfl ?_
    refine zk_getR hX dX11_odds_47 flX11_76 k_0 z_0 (hw _ _ (by decide) |>.trans r_0_12) ?_
    refine zk_iload_n hX dX11_odds_50 rfl ?_
    refine zk_iload_n hX dX11_odds_51 rfl ?_
    refine zk_V2i hX dX11_odds_52 kcX4_callsOf mlX11_461 viX4_callsOf rfl k_114 z_114 (s_X4_callsOf hw hm hM _ _) (Nat.le_of_ble_eq_true rfl) rfl ?_
    refine zk_iload_n hX dX11_odds_55 rfl ?_
    refine zk_V2v hX dX11_odds_56 kcX9_share mlX11_464 viX9_share rfl k_1 z_1 (s_X9_share (by omega) (by omega) h0) (Nat.le_of_ble_eq_true rfl) rfl ?_
    refine zk_iload_n hX dX11_odds_59 rfl ?_
    refine zk_iret hX hE rfl ⟨rfl, rfl⟩ dX11_odds_60 ⟨_, rfl, ?_⟩
    unfold c_odds; rw [if_neg (by omega)]; exact ⟨rfl, rfl⟩
  · have h0 : zcnt (zofP w p (-9)) m = 0 := by
      rcases Nat.eq_zero_or_pos (zcnt (zofP w p (-9)) m) with q | q
      · exact q
      · exact absurd (nI_le (a := 1) q (by omega)) c30
    refine zk_aload_n hX dX11_odds_33 rfl ?_
    refine zk_getR hX dX11_odds_34 flX11_12 k_0 z_0 (hw _ _ (by decide) |>.trans r_0_0) ?_
    refine zk_iconst (v := 4) hX dX11_odds_37 (by decide) ?_
    refine zk_V1i hX dX11_odds_38 kcX9_find mlX11_111 viX9_find rfl k_1 z_1 (s_X9_find hw _ (by decide)) (Nat.le_of_ble_eq_true rfl) rfl ?_
    refine zk_iret hX hE rfl ⟨rfl, rfl⟩ dX11_odds_41 ⟨_, rfl, ?_⟩
    unfold c_odds; rw [if_pos h0]; exact ⟨rfl, rfl⟩
theorem s_X12_odds_bad {G : zG} {w : zW} {n : Nat} (hn : n ≤ 4000) (hN : w.1 166 33 = nI n) (p k : Int32) (h : ¬ ((0 ≤ p ∧ p < nI n) ∧ (0 ≤ k ∧ k < 6))) : zEi G mX12_odds [.ref 166, .int p, .int k] w (-1) w := by
  refine zC_of (lo := [_, _, _, _, _, _]) kcX12_odds (Nat.le_of_ble_eq_true rfl) rfl (fun X hX hE => ?_)
  refine zk_aload_n hX dX12_odds_0 rfl ?_
  refine zk_iload_n hX dX12_odds_1 rfl ?_
  refine zk_V1i hX dX12_odds_2 kcX12_isPose mlX12_290 viX12_isPose rfl k_166 z_166 (s_X12_isPose hn hN _) (Nat.le_of_ble_eq_true rfl) rfl ?_
  refine zk_if_eqB (tgt := 15) hX dX12_odds_5 (by decide) (fun c5 => ?_) (fun c5 => ?_)
  · refine zk_iconst (v := -1) hX dX12_odds_15 (by decide) ?_
    refine zk_iret hX hE rfl ⟨rfl, rfl⟩ dX12_odds_16 ⟨_, rfl, ?_⟩
    exact ⟨rfl, rfl⟩
  · refine zk_iload_n hX dX12_odds_8 rfl ?_
    refine zk_S1i hX dX12_odds_9 kcX12_isBeast mlX12_317 smX12_isBeast rfl (s_X12_isBeast' _) (Nat.le_of_ble_eq_true rfl) rfl ?_
    refine zk_if_neB (tgt := 17) hX dX12_odds_12 (by decide) (fun c12 => ?_) (fun c12 => ?_)
    · exact absurd c12 (fun c => h ⟨c5, by grind⟩)
    refine zk_iconst (v := -1) hX dX12_odds_15 (by decide) ?_
    refine zk_iret hX hE rfl ⟨rfl, rfl⟩ dX12_odds_16 ⟨_, rfl, ?_⟩
    exact ⟨rfl, rfl⟩
def mofP (w : zW) (p : Int32) : Nat → Bool := fun c => decide (w.1 201 (3 * c + 1) = p)
def mofPK (w : zW) (p k : Int32) : Nat → Bool := fun c => decide (w.1 201 (3 * c + 1) = p ∧ w.1 201 (3 * c + 2) = k)
def m_odds (w : zW) (m : Nat) (p k : Int32) : Int32 × zW := if zcnt (mofP w p) m = 0 then (-3, mfind w 4) else (nI (zcnt (mofP w p) m), zodds w 166 3 4 (zcnt (mofPK w p k) m) (zcnt (mofP w p) m))
theorem s_X12_odds {G : zG} {w : zW} (hw : zWf w) {m n : Nat} (hm : m ≤ 24) (hM : w.1 166 55 = nI m) (hn : n ≤ 4000) (hN : w.1 166 33 = nI n) (p k : Int32) (h : (0 ≤ p ∧ p < nI n) ∧ (0 ≤ k ∧ k < 6)) : zFi G mX12_odds [.ref 166, .int p, .int k] w (m_odds w m p k) := by
  have g1 := zcnt_le (mofP w p) m
  have g2 := zcnt_le (mofPK w p k) m
  refine zC_of (lo := [_, _, _, _, _, _]) kcX12_odds (Nat.le_of_ble_eq_true rfl) rfl (fun X hX hE => ?_)
  have loop : ∀ z i, i + z = m → zk0 G X mX12_odds 25 [.ref 166, .int p, .int k, .int (nI (zcnt (mofP w p) i)), .int (nI (zcnt (mofPK w p k) i)), .int (nI i)] [] w := by
    intro z
    induction z with
    | zero =>
      intro i hi
      obtain rfl : i = m := by omega
      refine zk_iload hX dX12_odds_25 rfl ?_
      refine zk_aload_n hX dX12_odds_27 rfl ?_
      refine zk_getI hX dX12_odds_28 flX12_205 k_166 z_166 ?_
      rw [hM]
      refine zk_icmp_ge (tgt := 103) hX dX12_odds_31 (by decide) (fun c31 => ?_) (fun c31 => ?_)
      rotate_left
      · exact absurd (nI_le (Nat.le_refl _) (by omega)) c31
      refine zk_iload_n hX dX12_odds_103 rfl ?_
      refine zk_if_ne (tgt := 115) hX dX12_odds_104 (by decide) (fun c104 => ?_) (fun c104 => ?_)
      · have h0 : ¬ zcnt (mofP w p) i = 0 := fun q => c104 (by rw [q]; rfl)
        refine zk_aload_n hX dX12_odds_115 rfl ?_
        refine zk_iload hX dX12_odds_116 rfl ?_
        refine zk_i2l hX dX12_odds_118 ?_
        rw [nI_l (by omega)]
        refine zk_iload_n hX dX12_odds_119 rfl ?_
        refine zk_i2l hX dX12_odds_120 ?_
        rw [nI_l (by omega)]
        refine zk_iload_n hX dX12_odds_121 rfl ?_
        refine zk_V3i hX dX12_odds_122 kcX12_fraction mlX12_397 viX12_fraction rfl k_166 z_166 (s_X12_fraction (by omega) (by omega) (by omega) _) (Nat.le_of_ble_eq_true rfl) rfl ?_
        refine zk_iret hX hE rfl ⟨rfl, rfl⟩ dX12_odds_125 ⟨_, rfl, ?_⟩
        unfold m_odds; first | (rw [if_pos h0]; exact ⟨rfl, rfl⟩) | (rw [if_neg h0]; exact ⟨rfl, rfl⟩)
      · have h0 : zcnt (mofP w p) i = 0 := (nI_eq (b := 0) (by omega) (by decide)).mp c104
        refine zk_aload_n hX dX12_odds_107 rfl ?_
        refine zk_iconst (v := 4) hX dX12_odds_108 (by decide) ?_
        refine zk_V1i hX dX12_odds_109 kcX12_meets mlX12_145 viX12_meets rfl k_166 z_166 (s_X12_meets hw _ (by decide)) (Nat.le_of_ble_eq_true rfl) rfl ?_
        refine zk_goto (tgt := 125) hX dX12_odds_112 (by decide) ?_
        refine zk_iret hX hE rfl ⟨rfl, rfl⟩ dX12_odds_125 ⟨_, rfl, ?_⟩
        unfold m_odds; first | (rw [if_pos h0]; exact ⟨rfl, rfl⟩) | (rw [if_neg h0]; exact ⟨rfl, rfl⟩)
    | succ z ih =>
      intro i hi
      have ht : w.1 201 (3 * i + 1) = p → nI (zcnt (mofP w p) i) + 1 = nI (zcnt (mofP w p) (i + 1)) := fun q => by rw [zcnt_t (by unfold mofP; exact decide_eq_true q), nI_succ]
      have hf : ¬ w.1 201 (3 * i + 1) = p → nI (zcnt (mofP w p) i) + 0 = nI (zcnt (mofP w p) (i + 1)) := fun q => by rw [zcnt_f (by unfold mofP; simpa using q)]; exact Int32.add_zero _
      have ht2 : (w.1 201 (3 * i + 1) = p ∧ w.1 201 (3 * i + 2) = k) → nI (zcnt (mofPK w p k) i) + 1 = nI (zcnt (mofPK w p k) (i + 1)) := fun q => by rw [zcnt_t (by unfold mofPK; exact decide_eq_true q), nI_succ]
      have hf2 : ¬ (w.1 201 (3 * i + 1) = p ∧ w.1 201 (3 * i + 2) = k) → nI (zcnt (mofPK w p k) i) + 0 = nI (zcnt (mofPK w p k) (i + 1)) := fun q => by rw [zcnt_f (by unfold mofPK; simpa using q)]; exact Int32.add_zero _
      refine zk_iload hX dX12_odds_25 rfl ?_
      refine zk_aload_n hX dX12_odds_27 rfl ?_
      refine zk_getI hX dX12_odds_28 flX12_205 k_166 z_166 ?_
      rw [hM]
      refine zk_icmp_ge (tgt := 103) hX dX12_odds_31 (by decide) (fun c31 => ?_) (fun c31 => ?_)
      · exact absurd c31 (nI_ge (by omega) (by omega))
      refine zk_iload_n hX dX12_odds_34 rfl ?_
      refine zk_aload_n hX dX12_odds_35 rfl ?_
      refine zk_getR hX dX12_odds_36 flX12_114 k_166 z_166 (hw _ _ (by decide) |>.trans r_166_56) ?_
      refine zk_iconst (v := 3) hX dX12_odds_39 (by decide) ?_
      refine zk_iload hX dX12_odds_40 rfl ?_
      refine zk_imul hX dX12_odds_42 ?_
      refine zk_iconst (v := 1) hX dX12_odds_43 (by decide) ?_
      refine zk_iadd hX dX12_odds_44 ?_
      refine zk_ialdE hX dX12_odds_45 (nI_addE (nI_mulE (nI_k 3 rfl) rfl) (nI_k 1 rfl)) k_201 z_201 (by first | assumption | omega) rfl ?_
      refine zk_iload_n hX dX12_odds_46 rfl ?_
      refine zk_icmp_ne (tgt := 54) hX dX12_odds_47 (by decide) (fun c47 => ?_) (fun c47 => ?_)
      · refine zk_iconst (v := 0) hX dX12_odds_54 (by decide) ?_
        refine zk_iadd hX dX12_odds_55 ?_
        first | rw [ht (by grind)] | rw [hf (by grind)]
        refine zk_istore_n (lo' := [_, _, _, _, _, _]) hX dX12_odds_56 (Nat.le_of_ble_eq_true rfl) rfl rfl ?_
        refine zk_iload hX dX12_odds_57 rfl ?_
        refine zk_aload_n hX dX12_odds_59 rfl ?_
        refine zk_getR hX dX12_odds_60 flX12_114 k_166 z_166 (hw _ _ (by decide) |>.trans r_166_56) ?_
        refine zk_iconst (v := 3) hX dX12_odds_63 (by decide) ?_
        refine zk_iload hX dX12_odds_64 rfl ?_
        refine zk_imul hX dX12_odds_66 ?_
        refine zk_iconst (v := 1) hX dX12_odds_67 (by decide) ?_
        refine zk_iadd hX dX12_odds_68 ?_
        refine zk_ialdE hX dX12_odds_69 (nI_addE (nI_mulE (nI_k 3 rfl) rfl) (nI_k 1 rfl)) k_201 z_201 (by first | assumption | omega) rfl ?_
        refine zk_iload_n hX dX12_odds_70 rfl ?_
        refine zk_icmp_ne (tgt := 93) hX dX12_odds_71 (by decide) (fun c71 => ?_) (fun c71 => ?_)
        · refine zk_iconst (v := 0) hX dX12_odds_93 (by decide) ?_
          refine zk_iadd hX dX12_odds_94 ?_
          first | rw [ht2 (by grind)] | rw [hf2 (by grind)]
          refine zk_istore (lo' := [_, _, _, _, _, _]) hX dX12_odds_95 (Nat.le_of_ble_eq_true rfl) rfl rfl ?_
          refine zk_iinc (lo' := [_, _, _, _, _, _]) hX dX12_odds_97 rfl (by first | exact zinc _ | exact rfl) (Nat.le_of_ble_eq_true rfl) rfl rfl ?_
          refine zk_goto (tgt := 25) hX dX12_odds_100 (by decide) ?_
          exact ih (i + 1) (by omega)
        · refine zk_aload_n hX dX12_odds_74 rfl ?_
          refine zk_getR hX dX12_odds_75 flX12_114 k_166 z_166 (hw _ _ (by decide) |>.trans r_166_56) ?_
          refine zk_iconst (v := 3) hX dX12_odds_78 (by decide) ?_
          refine zk_iload hX dX12_odds_79 rfl ?_
          refine zk_imul hX dX12_odds_81 ?_
          refine zk_iconst (v := 2) hX dX12_odds_82 (by decide) ?_
          refine zk_iadd hX dX12_odds_83 ?_
          refine zk_ialdE hX dX12_odds_84 (nI_addE (nI_mulE (nI_k 3 rfl) rfl) (nI_k 2 rfl)) k_201 z_201 (by first | assumption | omega) rfl ?_
          refine zk_iload_n hX dX12_odds_85 rfl ?_
          refine zk_icmp_ne (tgt := 93) hX dX12_odds_86 (by decide) (fun c86 => ?_) (fun c86 => ?_)
          · refine zk_iconst (v := 0) hX dX12_odds_93 (by decide) ?_
            refine zk_iadd hX dX12_odds_94 ?_
            first | rw [ht2 (by grind)] | rw [hf2 (by grind)]
            refine zk_istore (lo' := [_, _, _, _, _, _]) hX dX12_odds_95 (Nat.le_of_ble_eq_true rfl) rfl rfl ?_
            refine zk_iinc (lo' := [_, _, _, _, _, _]) hX dX12_odds_97 rfl (by first | exact zinc _ | exact rfl) (Nat.le_of_ble_eq_true rfl) rfl rfl ?_
            refine zk_goto (tgt := 25) hX dX12_odds_100 (by decide) ?_
            exact ih (i + 1) (by omega)
          · refine zk_iconst (v := 1) hX dX12_odds_89 (by decide) ?_
            refine zk_goto (tgt := 94) hX dX12_odds_90 (by decide) ?_
            refine zk_iadd hX dX12_odds_94 ?_
            first | rw [ht2 (by grind)] | rw [hf2 (by grind)]
            refine zk_istore (lo' := [_, _, _, _, _, _]) hX dX12_odds_95 (Nat.le_of_ble_eq_true rfl) rfl rfl ?_
            refine zk_iinc (lo' := [_, _, _, _, _, _]) hX dX12_odds_97 rfl (by first | exact zinc _ | exact rfl) (Nat.le_of_ble_eq_true rfl) rfl rfl ?_
            refine zk_goto (tgt := 25) hX dX12_odds_100 (by decide) ?_
            exact ih (i + 1) (by omega)
      · refine zk_iconst (v := 1) hX dX12_odds_50 (by decide) ?_
        refine zk_goto (tgt := 55) hX dX12_odds_51 (by decide) ?_
        refine zk_iadd hX dX12_odds_55 ?_
        first | rw [ht (by grind)] | rw [hf (by grind)]
        refine zk_istore_n (lo' := [_, _, _, _, _, _]) hX dX12_odds_56 (Nat.le_of_ble_eq_true rfl) rfl rfl ?_
        refine zk_iload hX dX12_odds_57 rfl ?_
        refine zk_aload_n hX dX12_odds_59 rfl ?_
        refine zk_getR hX dX12_odds_60 flX12_114 k_166 z_166 (hw _ _ (by decide) |>.trans r_166_56) ?_
        refine zk_iconst (v := 3) hX dX12_odds_63 (by decide) ?_
        refine zk_iload hX dX12_odds_64 rfl ?_
        refine zk_imul hX dX12_odds_66 ?_
        refine zk_iconst (v := 1) hX dX12_odds_67 (by decide) ?_
        refine zk_iadd hX dX12_odds_68 ?_
        refine zk_ialdE hX dX12_odds_69 (nI_addE (nI_mulE (nI_k 3 rfl) rfl) (nI_k 1 rfl)) k_201 z_201 (by first | assumption | omega) rfl ?_
        refine zk_iload_n hX dX12_odds_70 rfl ?_
        refine zk_icmp_ne (tgt := 93) hX dX12_odds_71 (by decide) (fun c71 => ?_) (fun c71 => ?_)
        · refine zk_iconst (v := 0) hX dX12_odds_93 (by decide) ?_
          refine zk_iadd hX dX12_odds_94 ?_
          first | rw [ht2 (by grind)] | rw [hf2 (by grind)]
          refine zk_istore (lo' := [_, _, _, _, _, _]) hX dX12_odds_95 (Nat.le_of_ble_eq_true rfl) rfl rfl ?_
          refine zk_iinc (lo' := [_, _, _, _, _, _]) hX dX12_odds_97 rfl (by first | exact zinc _ | exact rfl) (Nat.le_of_ble_eq_true rfl) rfl rfl ?_
          refine zk_goto (tgt := 25) hX dX12_odds_100 (by decide) ?_
          exact ih (i + 1) (by omega)
        · refine zk_aload_n hX dX12_odds_74 rfl ?_
          refine zk_getR hX dX12_odds_75 flX12_114 k_166 z_166 (hw _ _ (by decide) |>.trans r_166_56) ?_
          refine zk_iconst (v := 3) hX dX12_odds_78 (by decide) ?_
          refine zk_iload hX dX12_odds_79 rfl ?_
          refine zk_imul hX dX12_odds_81 ?_
          refine zk_iconst (v := 2) hX dX12_odds_82 (by decide) ?_
          refine zk_iadd hX dX12_odds_83 ?_
          refine zk_ialdE hX dX12_odds_84 (nI_addE (nI_mulE (nI_k 3 rfl) rfl) (nI_k 2 rfl)) k_201 z_201 (by first | assumption | omega) rfl ?_
          refine zk_iload_n hX dX12_odds_85 rfl ?_
          refine zk_icmp_ne (tgt := 93) hX dX12_odds_86 (by decide) (fun c86 => ?_) (fun c86 => ?_)
          · refine zk_iconst (v := 0) hX dX12_odds_93 (by decide) ?_
            refine zk_iadd hX dX12_odds_94 ?_
            first | rw [ht2 (by grind)] | rw [hf2 (by grind)]
            refine zk_istore (lo' := [_, _, _, _, _, _]) hX dX12_odds_95 (Nat.le_of_ble_eq_true rfl) rfl rfl ?_
            refine zk_iinc (lo' := [_, _, _, _, _, _]) hX dX12_odds_97 rfl (by first | exact zinc _ | exact rfl) (Nat.le_of_ble_eq_true rfl) rfl rfl ?_
            refine zk_goto (tgt := 25) hX dX12_odds_100 (by decide) ?_
            exact ih (i + 1) (by omega)
          · refine zk_iconst (v := 1) hX dX12_odds_89 (by decide) ?_
            refine zk_goto (tgt := 94) hX dX12_odds_90 (by decide) ?_
            refine zk_iadd hX dX12_odds_94 ?_
            first | rw [ht2 (by grind)] | rw [hf2 (by grind)]
            refine zk_istore (lo' := [_, _, _, _, _, _]) hX dX12_odds_95 (Nat.le_of_ble_eq_true rfl) rfl rfl ?_
            refine zk_iinc (lo' := [_, _, _, _, _, _]) hX dX12_odds_97 rfl (by first | exact zinc _ | exact rfl) (Nat.le_of_ble_eq_true rfl) rfl rfl ?_
            refine zk_goto (tgt := 25) hX dX12_odds_100 (by decide) ?_
            exact ih (i + 1) (by omega)
  refine zk_aload_n hX dX12_odds_0 rfl ?_
  refine zk_iload_n hX dX12_odds_1 rfl ?_
  refine zk_V1i hX dX12_odds_2 kcX12_isPose mlX12_290 viX12_isPose rfl k_166 z_166 (s_X12_isPose hn hN _) (Nat.le_of_ble_eq_true rfl) rfl ?_
  refine zk_if_eqB (tgt := 15) hX dX12_odds_5 (by decide) (fun c5 => ?_) (fun c5 => ?_)
  · exact absurd c5 (not_not_intro h.1)
  refine zk_iload_n hX dX12_odds_8 rfl ?_
  refine zk_S1i hX dX12_odds_9 kcX12_isBeast mlX12_317 smX12_isBeast rfl (s_X12_isBeast' _) (Nat.le_of_ble_eq_true rfl) rfl ?_
  refine zk_if_neB (tgt := 17) hX dX12_odds_12 (by decide) (fun c12 => ?_) (fun c12 => ?_)
  rotate_left
  · exact absurd (by have := h.2; grind) c12
  refine zk_iconst (v := 0) hX dX12_odds_17 (by decide) ?_
  refine zk_istore_n (lo' := [_, _, _, _, _, _]) hX dX12_odds_18 (Nat.le_of_ble_eq_true rfl) rfl rfl ?_
  refine zk_iconst (v := 0) hX dX12_odds_19 (by decide) ?_
  refine zk_istore (lo' := [_, _, _, _, _, _]) hX dX12_odds_20 (Nat.le_of_ble_eq_true rfl) rfl rfl ?_
  refine zk_iconst (v := 0) hX dX12_odds_22 (by decide) ?_
  refine zk_istore (lo' := [_, _, _, _, _, _]) hX dX12_odds_23 (Nat.le_of_ble_eq_true rfl) rfl rfl ?_
  exact loop m 0 (by omega)
