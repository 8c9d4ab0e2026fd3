def zkept (f : Nat → Int32) (n : Int32) : Nat → Nat
  | 0 => 0
  | i + 1 => zkept f n i + if f i < n then 1 else 0
theorem zkept_le (f : Nat → Int32) (n : Int32) : ∀ i, zkept f n i ≤ i
  | 0 => Nat.le_refl _
  | i + 1 => by
    have := zkept_le f n i
    unfold zkept
    split <;> omega
theorem zkept_t {f : Nat → Int32} {n : Int32} {i : Nat} (h : f i < n) : zkept f n (i + 1) = zkept f n i + 1 := by
  show zkept f n i + (if f i < n then 1 else 0) = _
  rw [if_pos h]
theorem zkept_f {f : Nat → Int32} {n : Int32} {i : Nat} (h : ¬ f i < n) : zkept f n (i + 1) = zkept f n i := by
  show zkept f n i + (if f i < n then 1 else 0) = _
  rw [if_neg h]
  omega
theorem zkept_mono {f : Nat → Int32} {n : Int32} {i j : Nat} (h : i ≤ j) : zkept f n i ≤ zkept f n j := by
  induction h with
  | refl => exact Nat.le_refl _
  | step h ih =>
    refine Nat.le_trans ih ?_
    show _ ≤ zkept f n _ + _
    omega
theorem zkept_lt {f : Nat → Int32} {n : Int32} {i j : Nat} (h : i < j) (hi : f i < n) : zkept f n i < zkept f n j := by
  have h1 := zkept_mono (f := f) (n := n) (show i + 1 ≤ j by omega)
  rw [zkept_t hi] at h1
  omega
def zsetCall (w : zW) (c : Nat) (l p k : Int32) : zW := zsi (zsi (zsi w 124 c l) 125 c p) 126 c k
theorem s_X4_setCall {G : zG} {w : zW} (hw : zWf w) {c : Nat} (hc : c < 24) (l p k : Int32) : zEv G mX4_setCall [.ref 114, .int (nI c), .int l, .int p, .int k] w (zsetCall w c l p k) := by
  refine zC_of (lo := [_, _, _, _, _]) kcX4_setCall (Nat.le_of_ble_eq_true rfl) rfl (fun X hX hE => ?_)
  refine zk_aload_n hX dX4_setCall_0 rfl ?_
  refine zk_getR hX dX4_setCall_1 flX4_16 k_114 z_114 (hw _ _ (by decide) |>.trans r_114_3) ?_
  refine zk_iload_n hX dX4_setCall_4 rfl ?_
  refine zk_iload_n hX dX4_setCall_5 rfl ?_
  refine zk_iastE hX dX4_setCall_6 rfl k_124 z_124 (by first | assumption | omega) rfl ?_
  refine zk_aload_n hX dX4_setCall_7 rfl ?_
  refine zk_getR hX dX4_setCall_8 flX4_20 k_114 z_114 ((zWf_i hw) _ _ (by decide) |>.trans r_114_4) ?_
  refine zk_iload_n hX dX4_setCall_11 rfl ?_
  refine zk_iload_n hX dX4_setCall_12 rfl ?_
  refine zk_iastE hX dX4_setCall_13 rfl k_125 z_125 (by first | assumption | omega) rfl ?_
  refine zk_aload_n hX dX4_setCall_14 rfl ?_
  refine zk_getR hX dX4_setCall_15 flX4_23 k_114 z_114 ((zWf_i (zWf_i hw)) _ _ (by decide) |>.trans r_114_5) ?_
  refine zk_iload_n hX dX4_setCall_18 rfl ?_
  refine zk_iload hX dX4_setCall_19 rfl ?_
  refine zk_iastE hX dX4_setCall_21 rfl k_126 z_126 (by first | assumption | omega) rfl ?_
  refine zk_vret hX hE rfl ⟨rfl, rfl⟩ dX4_setCall_22 ⟨rfl, ?_⟩
  rfl
def zDrop (w w1 : zW) (n : Int32) (i : Nat) : Prop := w1.2 = w.2 ∧ (∀ k, k ≠ 124 → k ≠ 125 → k ≠ 126 → w1.1 k = w.1 k) ∧ (∀ j, i ≤ j → w1.1 124 j = w.1 124 j ∧ w1.1 125 j = w.1 125 j ∧ w1.1 126 j = w.1 126 j) ∧
  ∀ q, q < i → w.1 125 q < n → (w1.1 124 (zkept (w.1 125) n q) = w.1 124 q ∧ w1.1 125 (zkept (w.1 125) n q) = w.1 125 q ∧ w1.1 126 (zkept (w.1 125) n q) = w.1 126 q)
theorem zDrop_0 {w : zW} {n : Int32} : zDrop w w n 0 := ⟨rfl, fun _ _ _ _ => rfl, fun _ _ => ⟨rfl, rfl, rfl⟩, fun q h => absurd h (by omega)⟩
theorem zDrop_f {w w1 : zW} {n : Int32} {i : Nat} (h : zDrop w w1 n i) (hf : ¬ w.1 125 i < n) : zDrop w w1 n (i + 1) := by
  obtain ⟨h1, h2, h3, h4⟩ := h
  refine ⟨h1, h2, fun j hj => h3 j (by omega), fun q hq hn => ?_⟩
  rcases Nat.lt_succ_iff_lt_or_eq.mp hq with g | rfl
  · exact h4 q g hn
  · exact absurd hn hf
theorem zsetCall_4 {w : zW} {c : Nat} {l p k : Int32} (j : Nat) : (zsetCall w c l p k).1 124 j = if j = c then l else w.1 124 j := by
  unfold zsetCall
  rw [zsi_1, if_neg (by omega), zsi_1, if_neg (by omega), zsi_1]
  simp
theorem zsetCall_5 {w : zW} {c : Nat} {l p k : Int32} (j : Nat) : (zsetCall w c l p k).1 125 j = if j = c then p else w.1 125 j := by
  unfold zsetCall
  rw [zsi_1, if_neg (by omega), zsi_1]
  simp [zsi_1]
theorem zsetCall_6 {w : zW} {c : Nat} {l p k : Int32} (j : Nat) : (zsetCall w c l p k).1 126 j = if j = c then k else w.1 126 j := by
  unfold zsetCall
  rw [zsi_1]
  simp [zsi_1]
theorem zsetCall_o {w : zW} {c : Nat} {l p k : Int32} {a : Nat} (h4 : a ≠ 124) (h5 : a ≠ 125) (h6 : a ≠ 126) : (zsetCall w c l p k).1 a = w.1 a := by
  unfold zsetCall
  funext j
  rw [zsi_1, if_neg (by omega), zsi_1, if_neg (by omega), zsi_1, if_neg (by omega)]
theorem zDrop_t {w w1 : zW} {n : Int32} {i : Nat} (h : zDrop w w1 n i) (hf : w.1 125 i < n) : zDrop w (zsetCall w1 (zkept (w.1 125) n i) (w1.1 124 i) (w1.1 125 i) (w1.1 126 i)) n (i + 1) := by
  obtain ⟨h1, h2, h3, h4⟩ := h
  have hle := zkept_le (w.1 125) n i
  refine ⟨h1, fun k a b c => by rw [zsetCall_o a b c, h2 k a b c], fun j hj => ?_, fun q hq hn => ?_⟩
  · rw [zsetCall_4, zsetCall_5, zsetCall_6, if_neg (by omega), if_neg (by omega), if_neg (by omega)]
    exact h3 j (by omega)
  · rw [zsetCall_4, zsetCall_5, zsetCall_6]
    rcases Nat.lt_succ_iff_lt_or_eq.mp hq with g | rfl
    · have := zkept_lt (n := n) g hn
      rw [if_neg (by omega), if_neg (by omega), if_neg (by omega)]
      exact h4 q g hn
    · rw [if_pos rfl, if_pos rfl, if_pos rfl]
      exact h3 q (Nat.le_refl _)
theorem s_X4_dropCalls {G : zG} {w : zW} (hw : zWf w) {m : Nat} (hm : m ≤ 24) (h : w.1 114 2 = nI m) (n : Int32) :
    zCv G mX4_dropCalls [.ref 114, .int n] w (fun w' => ∃ w1, zDrop w w1 n m ∧ w' = zsi w1 114 2 (nI (zkept (w.1 125) n m))) := by
  refine zC_of (lo := [_, _, _, _]) kcX4_dropCalls (Nat.le_of_ble_eq_true rfl) rfl (fun X hX hE => ?_)
  have loop : ∀ k i w1, i + k = m → zDrop w w1 n i → zk0 G X mX4_dropCalls 4 [.ref 114, .int n, .int (nI (zkept (w.1 125) n i)), .int (nI i)] [] w1 := by
    intro k
    induction k with
    | zero =>
      intro i w1 hi hD
      obtain rfl : i = m := by omega
      have hw1 : zWf w1 := zWf_of hw (by rw [hD.1])
      have h1 : w1.1 114 2 = nI i := by rw [hD.2.1 114 (by decide) (by decide) (by decide), h]
      refine zk_iload_n hX dX4_dropCalls_4 rfl ?_
      refine zk_aload_n hX dX4_dropCalls_5 rfl ?_
      refine zk_getI hX dX4_dropCalls_6 flX4_42 k_114 z_114 ?_
      rw [h1]
      refine zk_icmp_ge (tgt := 57) hX dX4_dropCalls_9 (by decide) (fun c9 => ?_) (fun c9 => ?_)
      rotate_left
      · exact absurd (nI_le (Nat.le_refl _) (by omega)) c9
      refine zk_aload_n hX dX4_dropCalls_57 rfl ?_
      refine zk_iload_n hX dX4_dropCalls_58 rfl ?_
      refine zk_putI hX dX4_dropCalls_59 plX4_42 (fun h => by cases h) k_114 z_114 rfl rfl ?_
      refine zk_vret hX hE rfl ⟨rfl, rfl⟩ dX4_dropCalls_62 ⟨rfl, ?_⟩
      exact ⟨w1, hD, rfl⟩
    | succ k ih =>
      intro i w1 hi hD
      have hw1 : zWf w1 := zWf_of hw (by rw [hD.1])
      have h1 : w1.1 114 2 = nI m := by rw [hD.2.1 114 (by decide) (by decide) (by decide), h]
      have hle := zkept_le (w.1 125) n i
      have hi5 := (hD.2.2.1 i (Nat.le_refl _)).2.1
      refine zk_iload_n hX dX4_dropCalls_4 rfl ?_
      refine zk_aload_n hX dX4_dropCalls_5 rfl ?_
      refine zk_getI hX dX4_dropCalls_6 flX4_42 k_114 z_114 ?_
      rw [h1]
      refine zk_icmp_ge (tgt := 57) hX dX4_dropCalls_9 (by decide) (fun c9 => ?_) (fun c9 => ?_)
      · exact absurd c9 (nI_ge (by omega) (by omega))
      refine zk_aload_n hX dX4_dropCalls_12 rfl ?_
      refine zk_getR hX dX4_dropCalls_13 flX4_20 k_114 z_114 (hw1 _ _ (by decide) |>.trans r_114_4) ?_
      refine zk_iload_n hX dX4_dropCalls_16 rfl ?_
      refine zk_ialdE hX dX4_dropCalls_17 rfl k_125 z_125 (by first | assumption | omega) rfl ?_
      refine zk_iload_n hX dX4_dropCalls_18 rfl ?_
      refine zk_icmp_lt (tgt := 25) hX dX4_dropCalls_19 (by decide) (fun c19 => ?_) (fun c19 => ?_)
      · rw [hi5] at c19
        refine zk_aload_n hX dX4_dropCalls_25 rfl ?_
        refine zk_iload_n hX dX4_dropCalls_26 rfl ?_
        refine zk_aload_n hX dX4_dropCalls_27 rfl ?_
        refine zk_getR hX dX4_dropCalls_28 flX4_16 k_114 z_114 (hw1 _ _ (by decide) |>.trans r_114_3) ?_
        refine zk_iload_n hX dX4_dropCalls_31 rfl ?_
        refine zk_ialdE hX dX4_dropCalls_32 rfl k_124 z_124 (by first | assumption | omega) rfl ?_
        refine zk_aload_n hX dX4_dropCalls_33 rfl ?_
        refine zk_getR hX dX4_dropCalls_34 flX4_20 k_114 z_114 (hw1 _ _ (by decide) |>.trans r_114_4) ?_
        refine zk_iload_n hX dX4_dropCalls_37 rfl ?_
        refine zk_ialdE hX dX4_dropCalls_38 rfl k_125 z_125 (by first | assumption | omega) rfl ?_
        refine zk_aload_n hX dX4_dropCalls_39 rfl ?_
        refine zk_getR hX dX4_dropCalls_40 flX4_23 k_114 z_114 (hw1 _ _ (by decide) |>.trans r_114_5) ?_
        refine zk_iload_n hX dX4_dropCalls_43 rfl ?_
        refine zk_ialdE hX dX4_dropCalls_44 rfl k_126 z_126 (by first | assumption | omega) rfl ?_
        refine zk_V4v hX dX4_dropCalls_45 kcX4_setCall mlX4_45 viX4_setCall rfl k_114 z_114 (s_X4_setCall hw1 (by omega) _ _ _) (Nat.le_of_ble_eq_true rfl) rfl ?_
        refine zk_iinc (lo' := [_, _, _, _]) hX dX4_dropCalls_48 rfl (by first | exact zinc _ | exact rfl) (Nat.le_of_ble_eq_true rfl) rfl rfl ?_
        refine zk_iinc (lo' := [_, _, _, _]) hX dX4_dropCalls_51 rfl (by first | exact zinc _ | exact rfl) (Nat.le_of_ble_eq_true rfl) rfl rfl ?_
        refine zk_goto (tgt := 4) hX dX4_dropCalls_54 (by decide) ?_
        first | (rw [← zkept_f c19]; exact ih (i + 1) w1 (by omega) (zDrop_f hD c19)) | (have e9 := zkept_t c19; rw [← e9]; exact ih (i + 1) _ (by omega) (zDrop_t hD c19))
      · rw [hi5] at c19
        refine zk_goto (tgt := 51) hX dX4_dropCalls_22 (by decide) ?_
        refine zk_iinc (lo' := [_, _, _, _]) hX dX4_dropCalls_51 rfl (by first | exact zinc _ | exact rfl) (Nat.le_of_ble_eq_true rfl) rfl rfl ?_
        refine zk_goto (tgt := 4) hX dX4_dropCalls_54 (by decide) ?_
        first | (rw [← zkept_f c19]; exact ih (i + 1) w1 (by omega) (zDrop_f hD c19)) | (have e9 := zkept_t c19; rw [← e9]; exact ih (i + 1) _ (by omega) (zDrop_t hD c19))
  refine zk_iconst (v := 0) hX dX4_dropCalls_0 (by decide) ?_
  refine zk_istore_n (lo' := [_, _, _, _]) hX dX4_dropCalls_1 (Nat.le_of_ble_eq_true rfl) rfl rfl ?_
  refine zk_iconst (v := 0) hX dX4_dropCalls_2 (by decide) ?_
  refine zk_istore_n (lo' := [_, _, _, _]) hX dX4_dropCalls_3 (Nat.le_of_ble_eq_true rfl) rfl rfl ?_
  exact loop m 0 w (by omega) zDrop_0
theorem s_X11_dropPoses {G : zG} {w : zW} (hw : zWf w) {m : Nat} (hm : m ≤ 24) (h : w.1 114 2 = nI m) (n : Int32) :
    zCv G mX11_dropPoses [.ref 0, .int n] w (fun w' => ∃ w1, zDrop w w1 n m ∧ w' = zsi (zsi w1 114 2 (nI (zkept (w.1 125) n m))) 0 10 n) := by
  refine zC_of (lo := [_, _]) kcX11_dropPoses (Nat.le_of_ble_eq_true rfl) rfl (fun X hX hE => ?_)
  refine zk_aload_n hX dX11_dropPoses_0 rfl ?_
  refine zk_getR hX dX11_dropPoses_1 flX11_76 k_0 z_0 (hw _ _ (by decide) |>.trans r_0_12) ?_
  refine zk_iload_n hX dX11_dropPoses_4 rfl ?_
  refine zk_V1vp hX dX11_dropPoses_5 kcX4_dropCalls mlX11_513 viX4_dropCalls rfl k_114 z_114 (s_X4_dropCalls hw hm h n) (Nat.le_of_ble_eq_true rfl) rfl (fun w9 q9 => ?_)
  obtain ⟨w1, hD, rfl⟩ := q9
  refine zk_aload_n hX dX11_dropPoses_8 rfl ?_
  refine zk_iload_n hX dX11_dropPoses_9 rfl ?_
  refine zk_putI hX dX11_dropPoses_10 plX11_213 (fun h => by cases h) k_0 z_0 rfl rfl ?_
  refine zk_vret hX hE rfl ⟨rfl, rfl⟩ dX11_dropPoses_13 ⟨rfl, ?_⟩
  exact ⟨w1, hD, rfl⟩
def zcnt (P : Nat → Bool) : Nat → Nat
  | 0 => 0
  | i + 1 => zcnt P i + if P i = true then 1 else 0
theorem zcnt_le (P : Nat → Bool) : ∀ i, zcnt P i ≤ i
  | 0 => Nat.le_refl _
  | i + 1 => by
    have := zcnt_le P i
    unfold zcnt
    split <;> omega
theorem zcnt_t {P : Nat → Bool} {i : Nat} (h : P i = true) : zcnt P (i + 1) = zcnt P i + 1 := by
  show zcnt P i + (if P i = true then 1 else 0) = _
  rw [if_pos h]
theorem zcnt_f {P : Nat → Bool} {i : Nat} (h : ¬ P i = true) : zcnt P (i + 1) = zcnt P i := by
  show zcnt P i + (if P i = true then 1 else 0) = _
  rw [if_neg h]
  omega
theorem zcnt_c {P R : Nat → Bool} : ∀ {n : Nat}, (∀ i, i < n → P i = R i) → zcnt P n = zcnt R n
  | 0, _ => rfl
  | n + 1, h => by
    unfold zcnt
    rw [zcnt_c (fun i hi => h i (by omega)), h n (by omega)]
